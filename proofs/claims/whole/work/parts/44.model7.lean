set_option maxHeartbeats 4000000 in
set_option maxRecDepth 100000 in
theorem t_X10_filterCount (l : Launch) {Z : ZT} (hZ : zOK Z) (B : Nat → Nat) (ν : MM) (sz : Nat)  : XMi l yX10_filterCount cX10_filterCount 1 (some .int) 0 [.ref (B 0)] Z mds B (mE Z B) ν sz (fun r u => r = ν 1 0 ∧ u = up1 ν 0 (upd (ν 0) 0 (nI 0))) := by
  refine r_met (E := (mE Z B ν)) (by decide +kernel) (Nat.le_of_ble_eq_true rfl) ?_
  intro p e s m below meth c ls S hr hlk hnm hsz hW hl
  have hxe := S.1
  have hcd := S.2.1
  subst hsz
  have hl : lv_has ls 1 [(0, .ref (B 0))] := hl
  refine lv_aload_n hxe hcd dX10_filterCount_0 rfl (lv_at hl 0 rfl) ?_
  refine lv_iconst (v := (nI 0)) hxe hcd dX10_filterCount_1 (by decide) ?_
  refine gp_X10_53 S hW dX10_filterCount_2 (fun H locs hW => ?_)
  refine lv_aload_n hxe hcd dX10_filterCount_5 rfl (lv_at hl 0 rfl) ?_
  refine gf_X10_16 S hW dX10_filterCount_6 ?_
  refine lv_iconst (v := (nI 0)) hxe hcd dX10_filterCount_9 (by decide) ?_
  refine gm_ald S hW (i := 1) (k := 0) (n := 1357) (by decide) (by decide) rfl (by omega) dX10_filterCount_10 ?_
  refine r_iret S hr hlk (F := (mE Z B)) (u := (up1 ν 0 (upd (ν 0) 0 (nI 0)))) hW ?_ dX10_filterCount_11
  exact ⟨rfl, rfl⟩
set_option maxHeartbeats 4000000 in
set_option maxRecDepth 100000 in
theorem t_X10_tankCount (l : Launch) {Z : ZT} (hZ : zOK Z) (B : Nat → Nat) (ν : MM) (sz : Nat)  : XMi l yX10_tankCount cX10_tankCount 1 (some .int) 0 [.ref (B 0)] Z mds B (mE Z B) ν sz (fun r u => r = ν 1 1 ∧ u = up1 ν 0 (upd (ν 0) 0 (nI 0))) := by
  refine r_met (E := (mE Z B ν)) (by decide +kernel) (Nat.le_of_ble_eq_true rfl) ?_
  intro p e s m below meth c ls S hr hlk hnm hsz hW hl
  have hxe := S.1
  have hcd := S.2.1
  subst hsz
  have hl : lv_has ls 1 [(0, .ref (B 0))] := hl
  refine lv_aload_n hxe hcd dX10_tankCount_0 rfl (lv_at hl 0 rfl) ?_
  refine lv_iconst (v := (nI 0)) hxe hcd dX10_tankCount_1 (by decide) ?_
  refine gp_X10_53 S hW dX10_tankCount_2 (fun H locs hW => ?_)
  refine lv_aload_n hxe hcd dX10_tankCount_5 rfl (lv_at hl 0 rfl) ?_
  refine gf_X10_16 S hW dX10_tankCount_6 ?_
  refine lv_iconst (v := (nI 1)) hxe hcd dX10_tankCount_9 (by decide) ?_
  refine gm_ald S hW (i := 1) (k := 1) (n := 1357) (by decide) (by decide) rfl (by omega) dX10_tankCount_10 ?_
  refine r_iret S hr hlk (F := (mE Z B)) (u := (up1 ν 0 (upd (ν 0) 0 (nI 0)))) hW ?_ dX10_tankCount_11
  exact ⟨rfl, rfl⟩
set_option maxHeartbeats 4000000 in
set_option maxRecDepth 100000 in
theorem t_X10_storedTotal (l : Launch) {Z : ZT} (hZ : zOK Z) (B : Nat → Nat) (ν : MM) (sz : Nat)  : XMi l yX10_storedTotal cX10_storedTotal 1 (some .int) 0 [.ref (B 0)] Z mds B (mE Z B) ν sz (fun r u => r = ν 1 2 ∧ u = up1 ν 0 (upd (ν 0) 0 (nI 0))) := by
  refine r_met (E := (mE Z B ν)) (by decide +kernel) (Nat.le_of_ble_eq_true rfl) ?_
  intro p e s m below meth c ls S hr hlk hnm hsz hW hl
  have hxe := S.1
  have hcd := S.2.1
  subst hsz
  have hl : lv_has ls 1 [(0, .ref (B 0))] := hl
  refine lv_aload_n hxe hcd dX10_storedTotal_0 rfl (lv_at hl 0 rfl) ?_
  refine lv_iconst (v := (nI 0)) hxe hcd dX10_storedTotal_1 (by decide) ?_
  refine gp_X10_53 S hW dX10_storedTotal_2 (fun H locs hW => ?_)
  refine lv_aload_n hxe hcd dX10_storedTotal_5 rfl (lv_at hl 0 rfl) ?_
  refine gf_X10_16 S hW dX10_storedTotal_6 ?_
  refine lv_iconst (v := (nI 2)) hxe hcd dX10_storedTotal_9 (by decide) ?_
  refine gm_ald S hW (i := 1) (k := 2) (n := 1357) (by decide) (by decide) rfl (by omega) dX10_storedTotal_10 ?_
  refine r_iret S hr hlk (F := (mE Z B)) (u := (up1 ν 0 (upd (ν 0) 0 (nI 0)))) hW ?_ dX10_storedTotal_11
  exact ⟨rfl, rfl⟩
set_option maxHeartbeats 4000000 in
set_option maxRecDepth 100000 in
theorem t_X10_droppedTotal (l : Launch) {Z : ZT} (hZ : zOK Z) (B : Nat → Nat) (ν : MM) (sz : Nat)  : XMi l yX10_droppedTotal cX10_droppedTotal 1 (some .int) 0 [.ref (B 0)] Z mds B (mE Z B) ν sz (fun r u => r = ν 1 3 ∧ u = up1 ν 0 (upd (ν 0) 0 (nI 0))) := by
  refine r_met (E := (mE Z B ν)) (by decide +kernel) (Nat.le_of_ble_eq_true rfl) ?_
  intro p e s m below meth c ls S hr hlk hnm hsz hW hl
  have hxe := S.1
  have hcd := S.2.1
  subst hsz
  have hl : lv_has ls 1 [(0, .ref (B 0))] := hl
  refine lv_aload_n hxe hcd dX10_droppedTotal_0 rfl (lv_at hl 0 rfl) ?_
  refine lv_iconst (v := (nI 0)) hxe hcd dX10_droppedTotal_1 (by decide) ?_
  refine gp_X10_53 S hW dX10_droppedTotal_2 (fun H locs hW => ?_)
  refine lv_aload_n hxe hcd dX10_droppedTotal_5 rfl (lv_at hl 0 rfl) ?_
  refine gf_X10_16 S hW dX10_droppedTotal_6 ?_
  refine lv_iconst (v := (nI 3)) hxe hcd dX10_droppedTotal_9 (by decide) ?_
  refine gm_ald S hW (i := 1) (k := 3) (n := 1357) (by decide) (by decide) rfl (by omega) dX10_droppedTotal_10 ?_
  refine r_iret S hr hlk (F := (mE Z B)) (u := (up1 ν 0 (upd (ν 0) 0 (nI 0)))) hW ?_ dX10_droppedTotal_11
  exact ⟨rfl, rfl⟩
set_option maxHeartbeats 4000000 in
set_option maxRecDepth 100000 in
theorem t_X10_drainedTotal (l : Launch) {Z : ZT} (hZ : zOK Z) (B : Nat → Nat) (ν : MM) (sz : Nat)  : XMi l yX10_drainedTotal cX10_drainedTotal 1 (some .int) 0 [.ref (B 0)] Z mds B (mE Z B) ν sz (fun r u => r = ν 1 4 ∧ u = up1 ν 0 (upd (ν 0) 0 (nI 0))) := by
  refine r_met (E := (mE Z B ν)) (by decide +kernel) (Nat.le_of_ble_eq_true rfl) ?_
  intro p e s m below meth c ls S hr hlk hnm hsz hW hl
  have hxe := S.1
  have hcd := S.2.1
  subst hsz
  have hl : lv_has ls 1 [(0, .ref (B 0))] := hl
  refine lv_aload_n hxe hcd dX10_drainedTotal_0 rfl (lv_at hl 0 rfl) ?_
  refine lv_iconst (v := (nI 0)) hxe hcd dX10_drainedTotal_1 (by decide) ?_
  refine gp_X10_53 S hW dX10_drainedTotal_2 (fun H locs hW => ?_)
  refine lv_aload_n hxe hcd dX10_drainedTotal_5 rfl (lv_at hl 0 rfl) ?_
  refine gf_X10_16 S hW dX10_drainedTotal_6 ?_
  refine lv_iconst (v := (nI 4)) hxe hcd dX10_drainedTotal_9 (by decide) ?_
  refine gm_ald S hW (i := 1) (k := 4) (n := 1357) (by decide) (by decide) rfl (by omega) dX10_drainedTotal_10 ?_
  refine r_iret S hr hlk (F := (mE Z B)) (u := (up1 ν 0 (upd (ν 0) 0 (nI 0)))) hW ?_ dX10_drainedTotal_11
  exact ⟨rfl, rfl⟩
set_option maxHeartbeats 4000000 in
set_option maxRecDepth 100000 in
theorem t_X10_filterKind (l : Launch) {Z : ZT} (hZ : zOK Z) (B : Nat → Nat) (ν : MM) (sz : Nat) {nf : Nat} (hnf : ν 1 0 = nI nf) (hnf8 : nf ≤ 8) (ps : Nat → Nat) (hps : ∀ f, f < nf → ν 1 (13 + f) = nI (ps f) ∧ ps f ≤ 999 ∧ KP (ν 1 (5 + f)) (nI (ps f))) (x : Int32) : XMi l yX10_filterKind cX10_filterKind 2 (some .char) 2 [.ref (B 0), .int x] Z mds B (mE Z B) ν sz (fun r u => (∃ f, f < nf ∧ x = nI f ∧ r = ν 1 (5 + f) ∧ u = up1 ν 0 (upd (ν 0) 0 (nI 0))) ∨ (¬ IX x nf ∧ r = nI 97 ∧ u = up1 ν 0 (upd (ν 0) 0 (nI 1)))) := by
  refine r_met (E := (mE Z B ν)) (by decide +kernel) (Nat.le_of_ble_eq_true rfl) ?_
  intro p e s m below meth c ls S hr hlk hnm hsz hW hl
  have hxe := S.1
  have hcd := S.2.1
  subst hsz
  have hl : lv_has ls 2 [(0, .ref (B 0)), (1, .int x)] := hl
  refine lv_aload_n hxe hcd dX10_filterKind_0 rfl (lv_at hl 0 rfl) ?_
  refine lv_aload_n hxe hcd dX10_filterKind_1 rfl (lv_at hl 0 rfl) ?_
  refine lv_iload_n hxe hcd dX10_filterKind_2 rfl (lv_at hl 1 rfl) ?_
  refine r_calli0 (r_runV hZ S hW (As := [.int x]) (rest := [.ref (B 0)]) (t_X10_isFilter l hZ B ν s.heap.size hnf hnf8 x) k_X10_92 (r_recv hW (x := 0) (List.mem_range.mpr (by decide)) rfl rfl) (hl.1) rfl rfl (Nat.le_of_ble_eq_true rfl) ⟨Nat.le_of_ble_eq_true rfl, Nat.le_of_ble_eq_true rfl⟩ ⟨Nat.le_of_ble_eq_true rfl, Nat.le_of_ble_eq_true rfl⟩ dX10_filterKind_3) hW (fun r3 H locs hp3 hW => ?_)
  rcases hp3 with ⟨hp30, hp3⟩ | ⟨hp30, hp3⟩
  · subst hp30
    refine lv_if_eq (tgt := 13) hxe hcd dX10_filterKind_6 (by decide) (fun h => absurd h (by decide)) (fun _ => ?_)
    refine lv_iconst (v := (nI 0)) hxe hcd dX10_filterKind_9 (by decide) ?_
    refine lv_goto (tgt := 14) hxe hcd dX10_filterKind_10 (by decide) ?_
    refine gp_X10_53 S hW dX10_filterKind_14 (fun H locs hW => ?_)
    refine lv_aload_n hxe hcd dX10_filterKind_17 rfl (lv_at hl 0 rfl) ?_
    refine gf_X10_53 S hW dX10_filterKind_18 ?_
    refine r_as (y := (nI 0)) (by rw [up1_s, upd_s]) ?_
    refine lv_if_ne (tgt := 36) hxe hcd dX10_filterKind_21 (by decide) (fun h => absurd h (by decide)) (fun _ => ?_)
    obtain ⟨f, hf, rfl⟩ := hp3
    refine lv_aload_n hxe hcd dX10_filterKind_24 rfl (lv_at hl 0 rfl) ?_
    refine gf_X10_16 S hW dX10_filterKind_25 ?_
    refine lv_iconst (v := (nI 5)) hxe hcd dX10_filterKind_28 (by decide) ?_
    refine lv_iload_n hxe hcd dX10_filterKind_29 rfl (lv_at hl 1 rfl) ?_
    refine n_iadd S (a := 5) (b := f) dX10_filterKind_30 ?_
    refine gm_ald S hW (i := 1) (k := (5 + f)) (n := 1357) (by decide) (by decide) rfl (by omega) dX10_filterKind_31 ?_
    refine r_as (y := (ν 1 (5 + f))) (rfl) ?_
    have hch := KP_CH (hps f hf).2.2
    have hi2 := CH_i2c hch
    refine lv_i2c (v := ν 1 (5 + f)) hxe hcd dX10_filterKind_32 (by first | rfl | assumption) ?_
    refine lv_goto (tgt := 38) hxe hcd dX10_filterKind_33 (by decide) ?_
    refine r_zret S hr hlk (F := (mE Z B)) (u := (up1 ν 0 (upd (ν 0) 0 (nI 0)))) hW (CH_nar hch) ?_ dX10_filterKind_38
    exact Or.inl ⟨f, hf, rfl, rfl, rfl⟩
  · subst hp30
    refine lv_if_eq (tgt := 13) hxe hcd dX10_filterKind_6 (by decide) (fun _ => ?_) (fun h => absurd (by decide) h)
    refine lv_iconst (v := (nI 1)) hxe hcd dX10_filterKind_13 (by decide) ?_
    refine gp_X10_53 S hW dX10_filterKind_14 (fun H locs hW => ?_)
    refine lv_aload_n hxe hcd dX10_filterKind_17 rfl (lv_at hl 0 rfl) ?_
    refine gf_X10_53 S hW dX10_filterKind_18 ?_
    refine r_as (y := (nI 1)) (by rw [up1_s, upd_s]) ?_
    refine lv_if_ne (tgt := 36) hxe hcd dX10_filterKind_21 (by decide) (fun _ => ?_) (fun h => absurd h (by decide))
    refine lv_bipush (v := (nI 97)) hxe hcd dX10_filterKind_36 (by decide) ?_
    refine r_zret S hr hlk (F := (mE Z B)) (u := (up1 ν 0 (upd (ν 0) 0 (nI 1)))) hW (by decide +kernel) ?_ dX10_filterKind_38
    exact Or.inr ⟨hp3, rfl, rfl⟩
set_option maxHeartbeats 4000000 in
set_option maxRecDepth 100000 in
theorem t_X10_filterParameter (l : Launch) {Z : ZT} (hZ : zOK Z) (B : Nat → Nat) (ν : MM) (sz : Nat) {nf : Nat} (hnf : ν 1 0 = nI nf) (hnf8 : nf ≤ 8) (x : Int32) : XMi l yX10_filterParameter cX10_filterParameter 2 (some .int) 2 [.ref (B 0), .int x] Z mds B (mE Z B) ν sz (fun r u => (∃ f, f < nf ∧ x = nI f ∧ r = ν 1 (13 + f) ∧ u = up1 ν 0 (upd (ν 0) 0 (nI 0))) ∨ (¬ IX x nf ∧ r = nI 0 ∧ u = up1 ν 0 (upd (ν 0) 0 (nI 1)))) := by
  refine r_met (E := (mE Z B ν)) (by decide +kernel) (Nat.le_of_ble_eq_true rfl) ?_
  intro p e s m below meth c ls S hr hlk hnm hsz hW hl
  have hxe := S.1
  have hcd := S.2.1
  subst hsz
  have hl : lv_has ls 2 [(0, .ref (B 0)), (1, .int x)] := hl
  refine lv_aload_n hxe hcd dX10_filterParameter_0 rfl (lv_at hl 0 rfl) ?_
  refine lv_aload_n hxe hcd dX10_filterParameter_1 rfl (lv_at hl 0 rfl) ?_
  refine lv_iload_n hxe hcd dX10_filterParameter_2 rfl (lv_at hl 1 rfl) ?_
  refine r_calli0 (r_runV hZ S hW (As := [.int x]) (rest := [.ref (B 0)]) (t_X10_isFilter l hZ B ν s.heap.size hnf hnf8 x) k_X10_92 (r_recv hW (x := 0) (List.mem_range.mpr (by decide)) rfl rfl) (hl.1) rfl rfl (Nat.le_of_ble_eq_true rfl) ⟨Nat.le_of_ble_eq_true rfl, Nat.le_of_ble_eq_true rfl⟩ ⟨Nat.le_of_ble_eq_true rfl, Nat.le_of_ble_eq_true rfl⟩ dX10_filterParameter_3) hW (fun r3 H locs hp3 hW => ?_)
  rcases hp3 with ⟨hp30, hp3⟩ | ⟨hp30, hp3⟩
  · subst hp30
    refine lv_if_eq (tgt := 13) hxe hcd dX10_filterParameter_6 (by decide) (fun h => absurd h (by decide)) (fun _ => ?_)
    refine lv_iconst (v := (nI 0)) hxe hcd dX10_filterParameter_9 (by decide) ?_
    refine lv_goto (tgt := 14) hxe hcd dX10_filterParameter_10 (by decide) ?_
    refine gp_X10_53 S hW dX10_filterParameter_14 (fun H locs hW => ?_)
    refine lv_aload_n hxe hcd dX10_filterParameter_17 rfl (lv_at hl 0 rfl) ?_
    refine gf_X10_53 S hW dX10_filterParameter_18 ?_
    refine r_as (y := (nI 0)) (by rw [up1_s, upd_s]) ?_
    refine lv_if_ne (tgt := 36) hxe hcd dX10_filterParameter_21 (by decide) (fun h => absurd h (by decide)) (fun _ => ?_)
    obtain ⟨f, hf, rfl⟩ := hp3
    refine lv_aload_n hxe hcd dX10_filterParameter_24 rfl (lv_at hl 0 rfl) ?_
    refine gf_X10_16 S hW dX10_filterParameter_25 ?_
    refine lv_bipush (v := (nI 13)) hxe hcd dX10_filterParameter_28 (by decide) ?_
    refine lv_iload_n hxe hcd dX10_filterParameter_30 rfl (lv_at hl 1 rfl) ?_
    refine n_iadd S (a := 13) (b := f) dX10_filterParameter_31 ?_
    refine gm_ald S hW (i := 1) (k := (13 + f)) (n := 1357) (by decide) (by decide) rfl (by omega) dX10_filterParameter_32 ?_
    refine lv_goto (tgt := 37) hxe hcd dX10_filterParameter_33 (by decide) ?_
    refine r_iret S hr hlk (F := (mE Z B)) (u := (up1 ν 0 (upd (ν 0) 0 (nI 0)))) hW ?_ dX10_filterParameter_37
    exact Or.inl ⟨f, hf, rfl, rfl, rfl⟩
  · subst hp30
    refine lv_if_eq (tgt := 13) hxe hcd dX10_filterParameter_6 (by decide) (fun _ => ?_) (fun h => absurd (by decide) h)
    refine lv_iconst (v := (nI 1)) hxe hcd dX10_filterParameter_13 (by decide) ?_
    refine gp_X10_53 S hW dX10_filterParameter_14 (fun H locs hW => ?_)
    refine lv_aload_n hxe hcd dX10_filterParameter_17 rfl (lv_at hl 0 rfl) ?_
    refine gf_X10_53 S hW dX10_filterParameter_18 ?_
    refine r_as (y := (nI 1)) (by rw [up1_s, upd_s]) ?_
    refine lv_if_ne (tgt := 36) hxe hcd dX10_filterParameter_21 (by decide) (fun _ => ?_) (fun h => absurd h (by decide))
    refine lv_iconst (v := (nI 0)) hxe hcd dX10_filterParameter_36 (by decide) ?_
    refine r_iret S hr hlk (F := (mE Z B)) (u := (up1 ν 0 (upd (ν 0) 0 (nI 1)))) hW ?_ dX10_filterParameter_37
    exact Or.inr ⟨hp3, rfl, rfl⟩
set_option maxHeartbeats 4000000 in
set_option maxRecDepth 100000 in
theorem t_X10_noteCount (l : Launch) {Z : ZT} (hZ : zOK Z) (B : Nat → Nat) (ν : MM) (sz : Nat) (x : Int32) : XMi l yX10_noteCount cX10_noteCount 2 (some .int) 3 [.ref (B 0), .int x] Z mds B (mE Z B) ν sz (fun r u => (∃ q, q < 4 ∧ x = nI q ∧ r = ν 1 (21 + q) ∧ u = up1 ν 0 (upd (ν 0) 0 (nI 0))) ∨ (¬ IX x 4 ∧ r = nI 0 ∧ u = up1 ν 0 (upd (ν 0) 0 (nI 1)))) := by
  refine r_met (E := (mE Z B ν)) (by decide +kernel) (Nat.le_of_ble_eq_true rfl) ?_
  intro p e s m below meth c ls S hr hlk hnm hsz hW hl
  have hxe := S.1
  have hcd := S.2.1
  subst hsz
  have hl : lv_has ls 2 [(0, .ref (B 0)), (1, .int x)] := hl
  refine lv_aload_n hxe hcd dX10_noteCount_0 rfl (lv_at hl 0 rfl) ?_
  refine lv_iload_n hxe hcd dX10_noteCount_1 rfl (lv_at hl 1 rfl) ?_
  refine lv_bipush (v := (nI 21)) hxe hcd dX10_noteCount_2 (by decide) ?_
  refine r_calli (F := (mE Z B)) (r_runV hZ S hW (As := [.int x, .int (nI 21)]) (rest := []) (t_X10_tells l hZ B ν s.heap.size (F := 21) (by omega) x) k_X10_115 (r_recv hW (x := 0) (List.mem_range.mpr (by decide)) rfl rfl) (hl.1) rfl rfl (Nat.le_of_ble_eq_true rfl) ⟨Nat.le_of_ble_eq_true rfl, Nat.le_of_ble_eq_true rfl⟩ ⟨Nat.le_of_ble_eq_true rfl, Nat.le_of_ble_eq_true rfl⟩ dX10_noteCount_4) hW (fun r4 u4 H locs hp4 hW => ?_)
  refine r_iret S hr hlk (F := (mE Z B)) (u := u4) hW ?_ dX10_noteCount_7
  exact hp4
set_option maxHeartbeats 4000000 in
set_option maxRecDepth 100000 in
theorem t_X10_songLength (l : Launch) {Z : ZT} (hZ : zOK Z) (B : Nat → Nat) (ν : MM) (sz : Nat) (x : Int32) : XMi l yX10_songLength cX10_songLength 2 (some .int) 3 [.ref (B 0), .int x] Z mds B (mE Z B) ν sz (fun r u => (∃ q, q < 4 ∧ x = nI q ∧ r = ν 1 (25 + q) ∧ u = up1 ν 0 (upd (ν 0) 0 (nI 0))) ∨ (¬ IX x 4 ∧ r = nI 0 ∧ u = up1 ν 0 (upd (ν 0) 0 (nI 1)))) := by
  refine r_met (E := (mE Z B ν)) (by decide +kernel) (Nat.le_of_ble_eq_true rfl) ?_
  intro p e s m below meth c ls S hr hlk hnm hsz hW hl
  have hxe := S.1
  have hcd := S.2.1
  subst hsz
  have hl : lv_has ls 2 [(0, .ref (B 0)), (1, .int x)] := hl
  refine lv_aload_n hxe hcd dX10_songLength_0 rfl (lv_at hl 0 rfl) ?_
  refine lv_iload_n hxe hcd dX10_songLength_1 rfl (lv_at hl 1 rfl) ?_
  refine lv_bipush (v := (nI 25)) hxe hcd dX10_songLength_2 (by decide) ?_
  refine r_calli (F := (mE Z B)) (r_runV hZ S hW (As := [.int x, .int (nI 25)]) (rest := []) (t_X10_tells l hZ B ν s.heap.size (F := 25) (by omega) x) k_X10_115 (r_recv hW (x := 0) (List.mem_range.mpr (by decide)) rfl rfl) (hl.1) rfl rfl (Nat.le_of_ble_eq_true rfl) ⟨Nat.le_of_ble_eq_true rfl, Nat.le_of_ble_eq_true rfl⟩ ⟨Nat.le_of_ble_eq_true rfl, Nat.le_of_ble_eq_true rfl⟩ dX10_songLength_4) hW (fun r4 u4 H locs hp4 hW => ?_)
  refine r_iret S hr hlk (F := (mE Z B)) (u := u4) hW ?_ dX10_songLength_7
  exact hp4
set_option maxHeartbeats 4000000 in
set_option maxRecDepth 100000 in
theorem t_X10_capacity (l : Launch) {Z : ZT} (hZ : zOK Z) (B : Nat → Nat) (ν : MM) (sz : Nat) {nt : Nat} (hnt : ν 1 1 = nI nt) (hnt4 : nt ≤ 4) (x : Int32) : XMi l yX10_capacity cX10_capacity 2 (some .int) 3 [.ref (B 0), .int x] Z mds B (mE Z B) ν sz (fun r u => (∃ q, q < nt ∧ x = nI q ∧ r = ν 1 (29 + 12 * q + 0) ∧ u = up1 ν 0 (upd (ν 0) 0 (nI 0))) ∨ (¬ IX x nt ∧ r = nI 0 ∧ u = up1 ν 0 (upd (ν 0) 0 (nI 1)))) := by
  refine r_met (E := (mE Z B ν)) (by decide +kernel) (Nat.le_of_ble_eq_true rfl) ?_
  intro p e s m below meth c ls S hr hlk hnm hsz hW hl
  have hxe := S.1
  have hcd := S.2.1
  subst hsz
  have hl : lv_has ls 2 [(0, .ref (B 0)), (1, .int x)] := hl
  refine lv_aload_n hxe hcd dX10_capacity_0 rfl (lv_at hl 0 rfl) ?_
  refine lv_iload_n hxe hcd dX10_capacity_1 rfl (lv_at hl 1 rfl) ?_
  refine lv_iconst (v := (nI 0)) hxe hcd dX10_capacity_2 (by decide) ?_
  refine r_calli (F := (mE Z B)) (r_runV hZ S hW (As := [.int x, .int (nI 0)]) (rest := []) (t_X10_tellsTank l hZ B ν s.heap.size hnt hnt4 (w := 0) (by omega) x) k_X10_171 (r_recv hW (x := 0) (List.mem_range.mpr (by decide)) rfl rfl) (hl.1) rfl rfl (Nat.le_of_ble_eq_true rfl) ⟨Nat.le_of_ble_eq_true rfl, Nat.le_of_ble_eq_true rfl⟩ ⟨Nat.le_of_ble_eq_true rfl, Nat.le_of_ble_eq_true rfl⟩ dX10_capacity_3) hW (fun r3 u3 H locs hp3 hW => ?_)
  refine r_iret S hr hlk (F := (mE Z B)) (u := u3) hW ?_ dX10_capacity_6
  exact hp3
set_option maxHeartbeats 4000000 in
set_option maxRecDepth 100000 in
theorem t_X10_tuning (l : Launch) {Z : ZT} (hZ : zOK Z) (B : Nat → Nat) (ν : MM) (sz : Nat) {nt : Nat} (hnt : ν 1 1 = nI nt) (hnt4 : nt ≤ 4) (x : Int32) : XMi l yX10_tuning cX10_tuning 2 (some .int) 3 [.ref (B 0), .int x] Z mds B (mE Z B) ν sz (fun r u => (∃ q, q < nt ∧ x = nI q ∧ r = ν 1 (29 + 12 * q + 1) ∧ u = up1 ν 0 (upd (ν 0) 0 (nI 0))) ∨ (¬ IX x nt ∧ r = nI 0 ∧ u = up1 ν 0 (upd (ν 0) 0 (nI 1)))) := by
  refine r_met (E := (mE Z B ν)) (by decide +kernel) (Nat.le_of_ble_eq_true rfl) ?_
  intro p e s m below meth c ls S hr hlk hnm hsz hW hl
  have hxe := S.1
  have hcd := S.2.1
  subst hsz
  have hl : lv_has ls 2 [(0, .ref (B 0)), (1, .int x)] := hl
  refine lv_aload_n hxe hcd dX10_tuning_0 rfl (lv_at hl 0 rfl) ?_
  refine lv_iload_n hxe hcd dX10_tuning_1 rfl (lv_at hl 1 rfl) ?_
  refine lv_iconst (v := (nI 1)) hxe hcd dX10_tuning_2 (by decide) ?_
  refine r_calli (F := (mE Z B)) (r_runV hZ S hW (As := [.int x, .int (nI 1)]) (rest := []) (t_X10_tellsTank l hZ B ν s.heap.size hnt hnt4 (w := 1) (by omega) x) k_X10_171 (r_recv hW (x := 0) (List.mem_range.mpr (by decide)) rfl rfl) (hl.1) rfl rfl (Nat.le_of_ble_eq_true rfl) ⟨Nat.le_of_ble_eq_true rfl, Nat.le_of_ble_eq_true rfl⟩ ⟨Nat.le_of_ble_eq_true rfl, Nat.le_of_ble_eq_true rfl⟩ dX10_tuning_3) hW (fun r3 u3 H locs hp3 hW => ?_)
  refine r_iret S hr hlk (F := (mE Z B)) (u := u3) hW ?_ dX10_tuning_6
  exact hp3
set_option maxHeartbeats 4000000 in
set_option maxRecDepth 100000 in
theorem t_X10_level (l : Launch) {Z : ZT} (hZ : zOK Z) (B : Nat → Nat) (ν : MM) (sz : Nat) {nt : Nat} (hnt : ν 1 1 = nI nt) (hnt4 : nt ≤ 4) (x : Int32) : XMi l yX10_level cX10_level 2 (some .int) 3 [.ref (B 0), .int x] Z mds B (mE Z B) ν sz (fun r u => (∃ q, q < nt ∧ x = nI q ∧ r = ν 1 (29 + 12 * q + 2) ∧ u = up1 ν 0 (upd (ν 0) 0 (nI 0))) ∨ (¬ IX x nt ∧ r = nI 0 ∧ u = up1 ν 0 (upd (ν 0) 0 (nI 1)))) := by
  refine r_met (E := (mE Z B ν)) (by decide +kernel) (Nat.le_of_ble_eq_true rfl) ?_
  intro p e s m below meth c ls S hr hlk hnm hsz hW hl
  have hxe := S.1
  have hcd := S.2.1
  subst hsz
  have hl : lv_has ls 2 [(0, .ref (B 0)), (1, .int x)] := hl
  refine lv_aload_n hxe hcd dX10_level_0 rfl (lv_at hl 0 rfl) ?_
  refine lv_iload_n hxe hcd dX10_level_1 rfl (lv_at hl 1 rfl) ?_
  refine lv_iconst (v := (nI 2)) hxe hcd dX10_level_2 (by decide) ?_
  refine r_calli (F := (mE Z B)) (r_runV hZ S hW (As := [.int x, .int (nI 2)]) (rest := []) (t_X10_tellsTank l hZ B ν s.heap.size hnt hnt4 (w := 2) (by omega) x) k_X10_171 (r_recv hW (x := 0) (List.mem_range.mpr (by decide)) rfl rfl) (hl.1) rfl rfl (Nat.le_of_ble_eq_true rfl) ⟨Nat.le_of_ble_eq_true rfl, Nat.le_of_ble_eq_true rfl⟩ ⟨Nat.le_of_ble_eq_true rfl, Nat.le_of_ble_eq_true rfl⟩ dX10_level_3) hW (fun r3 u3 H locs hp3 hW => ?_)
  refine r_iret S hr hlk (F := (mE Z B)) (u := u3) hW ?_ dX10_level_6
  exact hp3
set_option maxHeartbeats 4000000 in
set_option maxRecDepth 100000 in
theorem t_X10_frameLoudness (l : Launch) {Z : ZT} (hZ : zOK Z) (B : Nat → Nat) (ν : MM) (sz : Nat) {nt : Nat} (hnt : ν 1 1 = nI nt) (hnt4 : nt ≤ 4) (cp lv : Nat → Nat) (hV : VT (ν 1) nt cp lv) (x y : Int32) : XMi l yX10_frameLoudness cX10_frameLoudness 3 (some .int) 2 [.ref (B 0), .int x, .int y] Z mds B (mE Z B) ν sz (fun r u => (∃ q j, q < nt ∧ x = nI q ∧ j < lv q ∧ y = nI j ∧ r = ν 1 (29 + 12 * q + (3 + j)) ∧ u = up1 ν 0 (upd (ν 0) 0 (nI 0))) ∨ (¬ IX x nt ∧ r = nI 0 ∧ u = up1 ν 0 (upd (ν 0) 0 (nI 1))) ∨ (∃ q, q < nt ∧ x = nI q ∧ ¬ IX y (lv q) ∧ r = nI 0 ∧ u = up1 ν 0 (upd (ν 0) 0 (nI 2)))) := by
  refine r_met (E := (mE Z B ν)) (by decide +kernel) (Nat.le_of_ble_eq_true rfl) ?_
  intro p e s m below meth c ls S hr hlk hnm hsz hW hl
  have hxe := S.1
  have hcd := S.2.1
  subst hsz
  have hl : lv_has ls 3 [(0, .ref (B 0)), (1, .int x), (2, .int y)] := hl
  refine lv_aload_n hxe hcd dX10_frameLoudness_0 rfl (lv_at hl 0 rfl) ?_
  refine lv_aload_n hxe hcd dX10_frameLoudness_1 rfl (lv_at hl 0 rfl) ?_
  refine lv_iload_n hxe hcd dX10_frameLoudness_2 rfl (lv_at hl 1 rfl) ?_
  refine r_calli0 (r_runV hZ S hW (As := [.int x]) (rest := [.ref (B 0)]) (t_X10_isTank l hZ B ν s.heap.size hnt hnt4 x) k_X10_150 (r_recv hW (x := 0) (List.mem_range.mpr (by decide)) rfl rfl) (hl.1) rfl rfl (Nat.le_of_ble_eq_true rfl) ⟨Nat.le_of_ble_eq_true rfl, Nat.le_of_ble_eq_true rfl⟩ ⟨Nat.le_of_ble_eq_true rfl, Nat.le_of_ble_eq_true rfl⟩ dX10_frameLoudness_3) hW (fun r3 H locs hp3 hW => ?_)
  rcases hp3 with ⟨hp30, hp3⟩ | ⟨hp30, hp3⟩
  · subst hp30
    refine lv_if_ne (tgt := 13) hxe hcd dX10_frameLoudness_6 (by decide) (fun _ => ?_) (fun h => absurd h (by decide))
    obtain ⟨q, hq, rfl⟩ := hp3
    have hvq := hV q hq
    refine lv_iload_n hxe hcd dX10_frameLoudness_13 rfl (lv_at hl 2 rfl) ?_
    refine lv_iconst (v := (nI 0)) hxe hcd dX10_frameLoudness_14 (by decide) ?_
    refine lv_aload_n hxe hcd dX10_frameLoudness_15 rfl (lv_at hl 0 rfl) ?_
    refine gf_X10_16 S hW dX10_frameLoudness_16 ?_
    refine lv_iload_n hxe hcd dX10_frameLoudness_19 rfl (lv_at hl 1 rfl) ?_
    refine lv_iconst (v := (nI 2)) hxe hcd dX10_frameLoudness_20 (by decide) ?_
    refine r_calli0 (r_runS hZ S hW (As := [.int (nI q), .int (nI 2)]) (rest := [.ref (B 1), .int (nI 0), .int y, .ref (B 0)]) (t_X10_of l hZ mds B (mE Z B ν) H.size (t := q) (w := 2)) k_X10_144 (hl.1) rfl rfl (Nat.le_of_ble_eq_true rfl) ⟨Nat.le_of_ble_eq_true rfl, Nat.le_of_ble_eq_true rfl⟩ ⟨Nat.le_of_ble_eq_true rfl, Nat.le_of_ble_eq_true rfl⟩ dX10_frameLoudness_21) hW (fun r21 H locs hp21 hW => ?_)
    have hp21 := hp21.symm
    subst hp21
    refine gm_ald S hW (i := 1) (k := (29 + 12 * q + 2)) (n := 1357) (by decide) (by decide) rfl (by omega) dX10_frameLoudness_24 ?_
    refine r_as (y := (nI (lv q))) (hvq.2.1) ?_
    refine lv_iconst (v := (nI 1)) hxe hcd dX10_frameLoudness_25 (by decide) ?_
    refine lv_isub hxe hcd dX10_frameLoudness_26 ?_
    refine r_calli0 (r_runS hZ S hW (As := [.int y, .int (nI 0), .int ((nI (lv q)) - (nI 1))]) (rest := [.ref (B 0)]) (t_X10_isIn l hZ mds B (mE Z B ν) H.size y (nI 0) ((nI (lv q)) - (nI 1))) k_X10_63 (hl.1) rfl rfl (Nat.le_of_ble_eq_true rfl) ⟨Nat.le_of_ble_eq_true rfl, Nat.le_of_ble_eq_true rfl⟩ ⟨Nat.le_of_ble_eq_true rfl, Nat.le_of_ble_eq_true rfl⟩ dX10_frameLoudness_27) hW (fun r27 H locs hp27 hW => ?_)
    rcases hp27 with ⟨hp270, hp27⟩ | ⟨hp270, hp27⟩
    · subst hp270
      rw [IX_sub (by omega)] at hp27
      refine lv_if_eq (tgt := 37) hxe hcd dX10_frameLoudness_30 (by decide) (fun h => absurd h (by decide)) (fun _ => ?_)
      refine lv_iconst (v := (nI 0)) hxe hcd dX10_frameLoudness_33 (by decide) ?_
      refine lv_goto (tgt := 38) hxe hcd dX10_frameLoudness_34 (by decide) ?_
      refine gp_X10_53 S hW dX10_frameLoudness_38 (fun H locs hW => ?_)
      refine lv_aload_n hxe hcd dX10_frameLoudness_41 rfl (lv_at hl 0 rfl) ?_
      refine gf_X10_53 S hW dX10_frameLoudness_42 ?_
      refine r_as (y := (nI 0)) (by rw [up1_s, upd_s]) ?_
      refine lv_if_ne (tgt := 63) hxe hcd dX10_frameLoudness_45 (by decide) (fun h => absurd h (by decide)) (fun _ => ?_)
      obtain ⟨j, hj, rfl⟩ := hp27
      refine lv_aload_n hxe hcd dX10_frameLoudness_48 rfl (lv_at hl 0 rfl) ?_
      refine gf_X10_16 S hW dX10_frameLoudness_49 ?_
      refine lv_iload_n hxe hcd dX10_frameLoudness_52 rfl (lv_at hl 1 rfl) ?_
      refine lv_iconst (v := (nI 3)) hxe hcd dX10_frameLoudness_53 (by decide) ?_
      refine lv_iload_n hxe hcd dX10_frameLoudness_54 rfl (lv_at hl 2 rfl) ?_
      refine n_iadd S (a := 3) (b := j) dX10_frameLoudness_55 ?_
      refine r_calli0 (r_runS hZ S hW (As := [.int (nI q), .int (nI (3 + j))]) (rest := [.ref (B 1)]) (t_X10_of l hZ mds B (mE Z B (up1 ν 0 (upd (ν 0) 0 (nI 0)))) H.size (t := q) (w := (3 + j))) k_X10_144 (hl.1) rfl rfl (Nat.le_of_ble_eq_true rfl) ⟨Nat.le_of_ble_eq_true rfl, Nat.le_of_ble_eq_true rfl⟩ ⟨Nat.le_of_ble_eq_true rfl, Nat.le_of_ble_eq_true rfl⟩ dX10_frameLoudness_56) hW (fun r56 H locs hp56 hW => ?_)
      have hp56 := hp56.symm
      subst hp56
      refine gm_ald S hW (i := 1) (k := (29 + 12 * q + (3 + j))) (n := 1357) (by decide) (by decide) rfl (by omega) dX10_frameLoudness_59 ?_
      refine lv_goto (tgt := 64) hxe hcd dX10_frameLoudness_60 (by decide) ?_
      refine r_iret S hr hlk (F := (mE Z B)) (u := (up1 ν 0 (upd (ν 0) 0 (nI 0)))) hW ?_ dX10_frameLoudness_64
      exact Or.inl ⟨q, j, hq, rfl, hj, rfl, rfl, rfl⟩
    · subst hp270
      rw [IX_sub (by omega)] at hp27
      refine lv_if_eq (tgt := 37) hxe hcd dX10_frameLoudness_30 (by decide) (fun _ => ?_) (fun h => absurd (by decide) h)
      refine lv_iconst (v := (nI 2)) hxe hcd dX10_frameLoudness_37 (by decide) ?_
      refine gp_X10_53 S hW dX10_frameLoudness_38 (fun H locs hW => ?_)
      refine lv_aload_n hxe hcd dX10_frameLoudness_41 rfl (lv_at hl 0 rfl) ?_
      refine gf_X10_53 S hW dX10_frameLoudness_42 ?_
      refine r_as (y := (nI 2)) (by rw [up1_s, upd_s]) ?_
      refine lv_if_ne (tgt := 63) hxe hcd dX10_frameLoudness_45 (by decide) (fun _ => ?_) (fun h => absurd h (by decide))
      refine lv_iconst (v := (nI 0)) hxe hcd dX10_frameLoudness_63 (by decide) ?_
      refine r_iret S hr hlk (F := (mE Z B)) (u := (up1 ν 0 (upd (ν 0) 0 (nI 2)))) hW ?_ dX10_frameLoudness_64
      exact Or.inr (Or.inr ⟨q, hq, rfl, hp27, rfl, rfl⟩)
  · subst hp30
    refine lv_if_ne (tgt := 13) hxe hcd dX10_frameLoudness_6 (by decide) (fun h => absurd h (by decide)) (fun _ => ?_)
    refine lv_iconst (v := (nI 1)) hxe hcd dX10_frameLoudness_9 (by decide) ?_
    refine lv_goto (tgt := 38) hxe hcd dX10_frameLoudness_10 (by decide) ?_
    refine gp_X10_53 S hW dX10_frameLoudness_38 (fun H locs hW => ?_)
    refine lv_aload_n hxe hcd dX10_frameLoudness_41 rfl (lv_at hl 0 rfl) ?_
    refine gf_X10_53 S hW dX10_frameLoudness_42 ?_
    refine r_as (y := (nI 1)) (by rw [up1_s, upd_s]) ?_
    refine lv_if_ne (tgt := 63) hxe hcd dX10_frameLoudness_45 (by decide) (fun _ => ?_) (fun h => absurd h (by decide))
    refine lv_iconst (v := (nI 0)) hxe hcd dX10_frameLoudness_63 (by decide) ?_
    refine r_iret S hr hlk (F := (mE Z B)) (u := (up1 ν 0 (upd (ν 0) 0 (nI 1)))) hW ?_ dX10_frameLoudness_64
    exact Or.inr (Or.inl ⟨hp3, rfl, rfl⟩)
set_option maxHeartbeats 4000000 in
set_option maxRecDepth 100000 in
theorem t_X10_frameCount (l : Launch) {Z : ZT} (hZ : zOK Z) (B : Nat → Nat) (ν : MM) (sz : Nat) (ln : Nat → Nat) (hln : ∀ q, q < 4 → ν 1 (25 + q) = nI (ln q) ∧ ln q ≤ 160) (x : Int32) : XMi l yX10_frameCount cX10_frameCount 2 (some .int) 3 [.ref (B 0), .int x] Z mds B (mE Z B) ν sz (fun r u => (∃ q, q < 4 ∧ x = nI q ∧ r = nI ((ln q + 7) / 8) ∧ u = up1 ν 0 (upd (ν 0) 0 (nI 0))) ∨ (¬ IX x 4 ∧ r = nI 0 ∧ u = up1 ν 0 (upd (ν 0) 0 (nI 1)))) := by
  refine r_met (E := (mE Z B ν)) (by decide +kernel) (Nat.le_of_ble_eq_true rfl) ?_
  intro p e s m below meth c ls S hr hlk hnm hsz hW hl
  have hxe := S.1
  have hcd := S.2.1
  subst hsz
  have hl : lv_has ls 2 [(0, .ref (B 0)), (1, .int x)] := hl
  refine lv_aload_n hxe hcd dX10_frameCount_0 rfl (lv_at hl 0 rfl) ?_
  refine lv_iload_n hxe hcd dX10_frameCount_1 rfl (lv_at hl 1 rfl) ?_
  refine lv_bipush (v := (nI 25)) hxe hcd dX10_frameCount_2 (by decide) ?_
  refine r_calli (F := (mE Z B)) (r_runV hZ S hW (As := [.int x, .int (nI 25)]) (rest := []) (t_X10_tells l hZ B ν s.heap.size (F := 25) (by omega) x) k_X10_115 (r_recv hW (x := 0) (List.mem_range.mpr (by decide)) rfl rfl) (hl.1) rfl rfl (Nat.le_of_ble_eq_true rfl) ⟨Nat.le_of_ble_eq_true rfl, Nat.le_of_ble_eq_true rfl⟩ ⟨Nat.le_of_ble_eq_true rfl, Nat.le_of_ble_eq_true rfl⟩ dX10_frameCount_4) hW (fun r4 u4 H locs hp4 hW => ?_)
  rcases hp4 with ⟨q, hq, ex, hp4, hp4m⟩ | ⟨hno, hp4, hp4m⟩
  · rw [(hln q hq).1] at hp4
    subst hp4
    subst hp4m
    have hlq := hln q hq
    refine lv_bipush (v := (nI 8)) hxe hcd dX10_frameCount_7 (by decide) ?_
    refine n_iadd S (a := (ln q)) (b := 8) dX10_frameCount_9 ?_
    refine lv_iconst (v := (nI 1)) hxe hcd dX10_frameCount_10 (by decide) ?_
    refine n_isub S (a := ((ln q) + 8)) (b := 1) (by omega) dX10_frameCount_11 ?_
    refine lv_bipush (v := (nI 8)) hxe hcd dX10_frameCount_12 (by decide) ?_
    refine n_idiv S (a := (((ln q) + 8) - 1)) (b := 8) (by omega) (by omega) (by omega) dX10_frameCount_14 ?_
    refine r_iret S hr hlk (F := (mE Z B)) (u := (up1 ν 0 (upd (ν 0) 0 (nI 0)))) hW ?_ dX10_frameCount_15
    exact Or.inl ⟨q, hq, ex, by rw [fr_dl], rfl⟩
  · subst hp4
    subst hp4m
    refine lv_bipush (v := (nI 8)) hxe hcd dX10_frameCount_7 (by decide) ?_
    refine n_iadd S (a := 0) (b := 8) dX10_frameCount_9 ?_
    refine r_as (y := (nI 8)) (by decide) ?_
    refine lv_iconst (v := (nI 1)) hxe hcd dX10_frameCount_10 (by decide) ?_
    refine n_isub S (a := 8) (b := 1) (by omega) dX10_frameCount_11 ?_
    refine lv_bipush (v := (nI 8)) hxe hcd dX10_frameCount_12 (by decide) ?_
    refine n_idiv S (a := (8 - 1)) (b := 8) (by omega) (by omega) (by omega) dX10_frameCount_14 ?_
    refine r_iret S hr hlk (F := (mE Z B)) (u := (up1 ν 0 (upd (ν 0) 0 (nI 1)))) hW ?_ dX10_frameCount_15
    exact Or.inr ⟨hno, rfl, rfl⟩
set_option maxHeartbeats 4000000 in
set_option maxRecDepth 100000 in
theorem t_X10_dropsFor (l : Launch) {Z : ZT} (hZ : zOK Z) (B : Nat → Nat) (ν : MM) (sz : Nat) (ln : Nat → Nat) (hln : ∀ q, q < 4 → ν 1 (25 + q) = nI (ln q) ∧ ln q ≤ 160) {nf : Nat} (hnf : ν 1 0 = nI nf) (hnf8 : nf ≤ 8) (ps : Nat → Nat) (hps : ∀ f, f < nf → ν 1 (13 + f) = nI (ps f) ∧ ps f ≤ 999 ∧ KP (ν 1 (5 + f)) (nI (ps f))) {nt : Nat} (hnt : ν 1 1 = nI nt) (hnt4 : nt ≤ 4) (cp lv : Nat → Nat) (hV : VT (ν 1) nt cp lv) (x : Int32) : XMi l yX10_dropsFor cX10_dropsFor 4 (some .int) 4 [.ref (B 0), .int x] Z mds B (mE Z B) ν sz (fun r u => (¬ IX x 4 ∧ r = nI 0 ∧ u = up1 ν 0 (upd (ν 0) 0 (nI 1))) ∨ (∃ q, q < 4 ∧ x = nI q ∧ r = nI ((ln q + 7) / 8 - pourC (ν 1) nt (ldV (flV (ν 1) q nf) (ln q)) ((ln q + 7) / 8)) ∧ ∃ o2 g2 : Nat → Int32, u = up1 (up1 (up1 (up1 ν 0 (upd (ν 0) 0 (nI 0))) 4 (ν 1)) 6 o2) 7 g2)) := by
  refine r_met (E := (mE Z B ν)) (by decide +kernel) (Nat.le_of_ble_eq_true rfl) ?_
  intro p e s m below meth c ls S hr hlk hnm hsz hW hl
  have hxe := S.1
  have hcd := S.2.1
  subst hsz
  have hl : lv_has ls 4 [(0, .ref (B 0)), (1, .int x)] := hl
  refine lv_aload_n hxe hcd dX10_dropsFor_0 rfl (lv_at hl 0 rfl) ?_
  refine lv_iload_n hxe hcd dX10_dropsFor_1 rfl (lv_at hl 1 rfl) ?_
  refine r_calli0 (r_runS hZ S hW (As := [.int x]) (rest := [.ref (B 0)]) (t_X10_isSong l hZ mds B (mE Z B ν) s.heap.size x) k_X10_105 (hl.1) rfl rfl (Nat.le_of_ble_eq_true rfl) ⟨Nat.le_of_ble_eq_true rfl, Nat.le_of_ble_eq_true rfl⟩ ⟨Nat.le_of_ble_eq_true rfl, Nat.le_of_ble_eq_true rfl⟩ dX10_dropsFor_2) hW (fun r2 H locs hp2 hW => ?_)
  rcases hp2 with ⟨hp20, hp2⟩ | ⟨hp20, hp2⟩
  · subst hp20
    refine lv_if_eq (tgt := 12) hxe hcd dX10_dropsFor_5 (by decide) (fun h => absurd h (by decide)) (fun _ => ?_)
    refine lv_iconst (v := (nI 0)) hxe hcd dX10_dropsFor_8 (by decide) ?_
    refine lv_goto (tgt := 13) hxe hcd dX10_dropsFor_9 (by decide) ?_
    refine gp_X10_53 S hW dX10_dropsFor_13 (fun H locs hW => ?_)
    refine lv_aload_n hxe hcd dX10_dropsFor_16 rfl (lv_at hl 0 rfl) ?_
    refine gf_X10_53 S hW dX10_dropsFor_17 ?_
    refine r_as (y := (nI 0)) (by rw [up1_s, upd_s]) ?_
    refine lv_if_eq (tgt := 25) hxe hcd dX10_dropsFor_20 (by decide) (fun _ => ?_) (fun h => absurd (by decide) h)
    obtain ⟨q, hq, rfl⟩ := hp2
    have hlq := hln q hq
    refine lv_aload_n hxe hcd dX10_dropsFor_25 rfl (lv_at hl 0 rfl) ?_
    refine gf_X10_26 S hW dX10_dropsFor_26 ?_
    refine lv_aload_n hxe hcd dX10_dropsFor_29 rfl (lv_at hl 0 rfl) ?_
    refine gf_X10_16 S hW dX10_dropsFor_30 ?_
    refine r_callv (F := (mE Z B)) (r_runS hZ S hW (As := [.ref (B 4), .ref (B 1)]) (rest := []) (t_X10_lays l hZ B (up1 ν 0 (upd (ν 0) 0 (nI 0))) H.size (i := 4) (j := 1) (by decide) (by decide) rfl (by decide) (by decide) rfl (by decide)) k_X10_56 (hl.1) rfl rfl (Nat.le_of_ble_eq_true rfl) ⟨Nat.le_of_ble_eq_true rfl, Nat.le_of_ble_eq_true rfl⟩ ⟨Nat.le_of_ble_eq_true rfl, Nat.le_of_ble_eq_true rfl⟩ dX10_dropsFor_33) hW (fun u33 H locs hp33 hW => ?_)
    have hp33 := hp33.symm
    subst hp33
    refine lv_aload_n hxe hcd dX10_dropsFor_36 rfl (lv_at hl 0 rfl) ?_
    refine lv_iload_n hxe hcd dX10_dropsFor_37 rfl (lv_at hl 1 rfl) ?_
    refine r_calli (F := (mE Z B)) (r_runV hZ S hW (As := [.int (nI q)]) (rest := []) (t_X10_pours l hZ B (up1 (up1 ν 0 (upd (ν 0) 0 (nI 0))) 4 ((up1 ν 0 (upd (ν 0) 0 (nI 0))) 1)) H.size (q := q) (n := ln q) hq hlq.1 hlq.2 hnf hnf8 ps hps hnt hnt4 cp lv hV) k_X10_162 (r_recv hW (x := 0) (List.mem_range.mpr (by decide)) rfl rfl) (hl.1) rfl rfl (Nat.le_of_ble_eq_true rfl) ⟨Nat.le_of_ble_eq_true rfl, Nat.le_of_ble_eq_true rfl⟩ ⟨Nat.le_of_ble_eq_true rfl, Nat.le_of_ble_eq_true rfl⟩ dX10_dropsFor_38) hW (fun r38 u38 H locs hp38 hW => ?_)
    obtain ⟨hr38, o38, g38, hm38⟩ := hp38
    have hm38 : u38 = up1 (up1 (up1 (up1 (up1 ν 0 (upd (ν 0) 0 (nI 0))) 4 ((up1 ν 0 (upd (ν 0) 0 (nI 0))) 1)) 6 o38) 7 g38) 1 (pourN (ν 1) nt (ldV (flV (ν 1) q nf) (ln q)) ((ln q + 7) / 8)) := hm38
    subst hm38
    subst hr38
    refine lv_istore_n (lv' := [(2, .int (nI (pourC (ν 1) nt (ldV (flV (ν 1) q nf) (ln q)) ((ln q + 7) / 8)))), (0, .ref (B 0)), (1, .int (nI q))]) hxe hcd dX10_dropsFor_41 rfl hl (by decide) rfl (fun ls hl => ?_)
    refine lv_aload_n hxe hcd dX10_dropsFor_42 rfl (lv_at hl 1 rfl) ?_
    refine gf_X10_16 S hW dX10_dropsFor_43 ?_
    refine lv_bipush (v := (nI 25)) hxe hcd dX10_dropsFor_46 (by decide) ?_
    refine lv_iload_n hxe hcd dX10_dropsFor_48 rfl (lv_at hl 2 rfl) ?_
    refine n_iadd S (a := 25) (b := q) dX10_dropsFor_49 ?_
    refine gm_ald S hW (i := 1) (k := (25 + q)) (n := 1357) (by decide) (by decide) rfl (by omega) dX10_dropsFor_50 ?_
    refine r_as (y := (nI (ln q))) (by rw [up1_s, pourN_lo hV hnt4 (by omega) (by omega) (by omega)]; exact hlq.1) ?_
    refine lv_bipush (v := (nI 8)) hxe hcd dX10_dropsFor_51 (by decide) ?_
    refine n_iadd S (a := (ln q)) (b := 8) dX10_dropsFor_53 ?_
    refine lv_iconst (v := (nI 1)) hxe hcd dX10_dropsFor_54 (by decide) ?_
    refine n_isub S (a := ((ln q) + 8)) (b := 1) (by omega) dX10_dropsFor_55 ?_
    refine lv_bipush (v := (nI 8)) hxe hcd dX10_dropsFor_56 (by decide) ?_
    refine n_idiv S (a := (((ln q) + 8) - 1)) (b := 8) (by omega) (by omega) (by omega) dX10_dropsFor_58 ?_
    refine lv_istore_n (lv' := [(3, .int (nI ((((ln q) + 8) - 1) / 8))), (2, .int (nI (pourC (ν 1) nt (ldV (flV (ν 1) q nf) (ln q)) ((ln q + 7) / 8)))), (0, .ref (B 0)), (1, .int (nI q))]) hxe hcd dX10_dropsFor_59 rfl hl (by decide) rfl (fun ls hl => ?_)
    refine lv_aload_n hxe hcd dX10_dropsFor_60 rfl (lv_at hl 2 rfl) ?_
    refine gf_X10_16 S hW dX10_dropsFor_61 ?_
    refine lv_aload_n hxe hcd dX10_dropsFor_64 rfl (lv_at hl 2 rfl) ?_
    refine gf_X10_26 S hW dX10_dropsFor_65 ?_
    refine r_callv (F := (mE Z B)) (r_runS hZ S hW (As := [.ref (B 1), .ref (B 4)]) (rest := []) (t_X10_lays l hZ B (up1 (up1 (up1 (up1 (up1 ν 0 (upd (ν 0) 0 (nI 0))) 4 ((up1 ν 0 (upd (ν 0) 0 (nI 0))) 1)) 6 o38) 7 g38) 1 (pourN (ν 1) nt (ldV (flV (ν 1) q nf) (ln q)) ((ln q + 7) / 8))) H.size (i := 1) (j := 4) (by decide) (by decide) rfl (by decide) (by decide) rfl (by decide)) k_X10_56 (hl.1) rfl rfl (Nat.le_of_ble_eq_true rfl) ⟨Nat.le_of_ble_eq_true rfl, Nat.le_of_ble_eq_true rfl⟩ ⟨Nat.le_of_ble_eq_true rfl, Nat.le_of_ble_eq_true rfl⟩ dX10_dropsFor_68) hW (fun u68 H locs hp68 hW => ?_)
    have hp68 := hp68.symm
    subst hp68
    refine lv_iload_n hxe hcd dX10_dropsFor_71 rfl (lv_at hl 0 rfl) ?_
    refine lv_iload_n hxe hcd dX10_dropsFor_72 rfl (lv_at hl 1 rfl) ?_
    have hpc := pourC_le (ν 1) nt (ldV (flV (ν 1) q nf) (ln q)) ((ln q + 7) / 8)
    refine n_isub S (a := ((((ln q) + 8) - 1) / 8)) (b := (pourC (ν 1) nt (ldV (flV (ν 1) q nf) (ln q)) ((ln q + 7) / 8))) (by omega) dX10_dropsFor_73 ?_
    refine r_iret S hr hlk (F := (mE Z B)) (u := (up1 (up1 (up1 (up1 (up1 (up1 ν 0 (upd (ν 0) 0 (nI 0))) 4 ((up1 ν 0 (upd (ν 0) 0 (nI 0))) 1)) 6 o38) 7 g38) 1 (pourN (ν 1) nt (ldV (flV (ν 1) q nf) (ln q)) ((ln q + 7) / 8))) 1 ((up1 (up1 (up1 (up1 (up1 ν 0 (upd (ν 0) 0 (nI 0))) 4 ((up1 ν 0 (upd (ν 0) 0 (nI 0))) 1)) 6 o38) 7 g38) 1 (pourN (ν 1) nt (ldV (flV (ν 1) q nf) (ln q)) ((ln q + 7) / 8))) 4))) hW ?_ dX10_dropsFor_74
    refine Or.inr ⟨q, hq, rfl, by rw [fr_dl], o38, g38, ?_⟩
    rw [up1_2]
    exact up1_p rfl
  · subst hp20
    refine lv_if_eq (tgt := 12) hxe hcd dX10_dropsFor_5 (by decide) (fun _ => ?_) (fun h => absurd (by decide) h)
    refine lv_iconst (v := (nI 1)) hxe hcd dX10_dropsFor_12 (by decide) ?_
    refine gp_X10_53 S hW dX10_dropsFor_13 (fun H locs hW => ?_)
    refine lv_aload_n hxe hcd dX10_dropsFor_16 rfl (lv_at hl 0 rfl) ?_
    refine gf_X10_53 S hW dX10_dropsFor_17 ?_
    refine r_as (y := (nI 1)) (by rw [up1_s, upd_s]) ?_
    refine lv_if_eq (tgt := 25) hxe hcd dX10_dropsFor_20 (by decide) (fun h => absurd h (by decide)) (fun _ => ?_)
    refine lv_iconst (v := (nI 0)) hxe hcd dX10_dropsFor_23 (by decide) ?_
    refine r_iret S hr hlk (F := (mE Z B)) (u := (up1 ν 0 (upd (ν 0) 0 (nI 1)))) hW ?_ dX10_dropsFor_24
    exact Or.inl ⟨hp2, rfl, rfl⟩
set_option maxHeartbeats 4000000 in
set_option maxRecDepth 100000 in
theorem t_X10_dropsByLevels (l : Launch) {Z : ZT} (hZ : zOK Z) (B : Nat → Nat) (ν : MM) (sz : Nat) (ln : Nat → Nat) (hln : ∀ q, q < 4 → ν 1 (25 + q) = nI (ln q) ∧ ln q ≤ 160) {nf : Nat} (hnf : ν 1 0 = nI nf) (hnf8 : nf ≤ 8) (ps : Nat → Nat) (hps : ∀ f, f < nf → ν 1 (13 + f) = nI (ps f) ∧ ps f ≤ 999 ∧ KP (ν 1 (5 + f)) (nI (ps f))) {nt : Nat} (hnt : ν 1 1 = nI nt) (hnt4 : nt ≤ 4) (cp lv : Nat → Nat) (hV : VT (ν 1) nt cp lv) (x : Int32) : XMi l yX10_dropsByLevels cX10_dropsByLevels 2 (some .int) 5 [.ref (B 0), .int x] Z mds B (mE Z B) ν sz (fun r u => (¬ IX x 4 ∧ r = nI 0 ∧ u = up1 ν 0 (upd (ν 0) 0 (nI 1))) ∨ (∃ q, q < 4 ∧ x = nI q ∧ r = nI ((ln q + 7) / 8 - pourC (ν 1) nt (ldV (flV (ν 1) q nf) (ln q)) ((ln q + 7) / 8)) ∧ ∃ o2 g2 : Nat → Int32, u = up1 (up1 (up1 (up1 ν 0 (upd (ν 0) 0 (nI 0))) 4 (ν 1)) 6 o2) 7 g2)) := by
  refine r_met (E := (mE Z B ν)) (by decide +kernel) (Nat.le_of_ble_eq_true rfl) ?_
  intro p e s m below meth c ls S hr hlk hnm hsz hW hl
  have hxe := S.1
  have hcd := S.2.1
  subst hsz
  have hl : lv_has ls 2 [(0, .ref (B 0)), (1, .int x)] := hl
  refine lv_aload_n hxe hcd dX10_dropsByLevels_0 rfl (lv_at hl 0 rfl) ?_
  refine lv_iload_n hxe hcd dX10_dropsByLevels_1 rfl (lv_at hl 1 rfl) ?_
  refine r_calli (F := (mE Z B)) (r_runV hZ S hW (As := [.int x]) (rest := []) (t_X10_dropsFor l hZ B ν s.heap.size ln hln hnf hnf8 ps hps hnt hnt4 cp lv hV x) k_X10_174 (r_recv hW (x := 0) (List.mem_range.mpr (by decide)) rfl rfl) (hl.1) rfl rfl (Nat.le_of_ble_eq_true rfl) ⟨Nat.le_of_ble_eq_true rfl, Nat.le_of_ble_eq_true rfl⟩ ⟨Nat.le_of_ble_eq_true rfl, Nat.le_of_ble_eq_true rfl⟩ dX10_dropsByLevels_2) hW (fun r2 u2 H locs hp2 hW => ?_)
  refine r_iret S hr hlk (F := (mE Z B)) (u := u2) hW ?_ dX10_dropsByLevels_5
  exact hp2
set_option maxHeartbeats 4000000 in
set_option maxRecDepth 100000 in
theorem t_X10_tankAtRank (l : Launch) {Z : ZT} (hZ : zOK Z) (B : Nat → Nat) (ν : MM) (sz : Nat) {nt : Nat} (hnt : ν 1 1 = nI nt) (hnt4 : nt ≤ 4) (cp lv : Nat → Nat) (hV : VT (ν 1) nt cp lv) (x : Int32) : XMi l yX10_tankAtRank cX10_tankAtRank 6 (some .int) 1 [.ref (B 0), .int x] Z mds B (mE Z B) ν sz (fun r u => (∃ t, t < nt ∧ nI (rkN (ν 1) t nt) = x ∧ (∀ t2, t2 < t → ¬ nI (rkN (ν 1) t2 nt) = x) ∧ r = nI t ∧ u = up1 ν 0 (upd (ν 0) 0 (nI 0))) ∨ ((∀ t2, t2 < nt → ¬ nI (rkN (ν 1) t2 nt) = x) ∧ r = nI 0 ∧ u = up1 ν 0 (upd (ν 0) 0 (nI 1)))) := by
  refine r_met (E := (mE Z B ν)) (by decide +kernel) (Nat.le_of_ble_eq_true rfl) ?_
  intro p e s m below meth c ls S hr hlk hnm hsz hW hl
  have hxe := S.1
  have hcd := S.2.1
  subst hsz
  have hl : lv_has ls 6 [(0, .ref (B 0)), (1, .int x)] := hl
  refine lv_aload_n hxe hcd dX10_tankAtRank_0 rfl (lv_at hl 0 rfl) ?_
  refine lv_iconst (v := (nI 0)) hxe hcd dX10_tankAtRank_1 (by decide) ?_
  refine gp_X10_53 S hW dX10_tankAtRank_2 (fun H locs hW => ?_)
  refine lv_iconst (v := (nI 0)) hxe hcd dX10_tankAtRank_5 (by decide) ?_
  refine lv_istore_n (lv' := [(2, .int (nI 0)), (0, .ref (B 0)), (1, .int x)]) hxe hcd dX10_tankAtRank_6 rfl hl (by decide) rfl (fun ls hl => ?_)
  have loop7 : ∀ (n_ : Nat) (t : Nat), nt - t < n_ → (t ≤ nt) → (∀ t2, t2 < t → ¬ nI (rkN (ν 1) t2 nt) = x) → ∀ (H : Heap) (locs : List Loc) (ls : Array Slot), wX Z mds B (mE Z B (up1 ν 0 (upd (ν 0) 0 (nI 0)))) (fA mds B (mE Z B ν) s.heap.size) s H locs → lv_has ls 6 [(0, .ref (B 0)), (1, .int x), (2, .int (nI t))] → W p l e (rmD 1 0 0) s m ([.ref (B 0), .int x] : List Value).toArray below meth c H locs 0 0 (MQ below (va_Qi (fun r u => (∃ t, t < nt ∧ nI (rkN (ν 1) t nt) = x ∧ (∀ t2, t2 < t → ¬ nI (rkN (ν 1) t2 nt) = x) ∧ r = nI t ∧ u = up1 ν 0 (upd (ν 0) 0 (nI 0))) ∨ ((∀ t2, t2 < nt → ¬ nI (rkN (ν 1) t2 nt) = x) ∧ r = nI 0 ∧ u = up1 ν 0 (upd (ν 0) 0 (nI 1)))) (fun u t => qB Z mds B ((mE Z B) u) (fA mds B (mE Z B ν) s.heap.size) t) (fA mds B (mE Z B ν) s.heap.size)) ([.ref (B 0), .int x] : List Value).toArray s 0 0 (fA mds B (mE Z B ν) s.heap.size)) (F0 m 7 ls []) := by
    intro n_
    induction n_ with
    | zero => intro t hm; exact absurd hm (Nat.not_lt_zero _)
    | succ n_ ih7 =>
      intro t hm ht hno H locs ls hW hl
      refine lv_iload_n hxe hcd dX10_tankAtRank_7 rfl (lv_at hl 2 rfl) ?_
      refine lv_aload_n hxe hcd dX10_tankAtRank_8 rfl (lv_at hl 0 rfl) ?_
      refine gf_X10_16 S hW dX10_tankAtRank_9 ?_
      refine lv_iconst (v := (nI 1)) hxe hcd dX10_tankAtRank_12 (by decide) ?_
      refine gm_ald S hW (i := 1) (k := 1) (n := 1357) (by decide) (by decide) rfl (by omega) dX10_tankAtRank_13 ?_
      refine r_as (y := (nI nt)) (hnt) ?_
      refine n_ge S (a := t) (b := nt) (by omega) (by omega) dX10_tankAtRank_14 (tgt := 134) (by decide) (fun c14 => ?_) (fun c14 => ?_)
      · refine lv_aload_n hxe hcd dX10_tankAtRank_134 rfl (lv_at hl 0 rfl) ?_
        refine lv_iconst (v := (nI 1)) hxe hcd dX10_tankAtRank_135 (by decide) ?_
        refine r_calli (F := (mE Z B)) (r_runV hZ S hW (As := [.int (nI 1)]) (rest := []) (t_X10_fail l hZ B (up1 ν 0 (upd (ν 0) 0 (nI 0))) H.size (nI 1)) k_X10_71 (r_recv hW (x := 0) (List.mem_range.mpr (by decide)) rfl rfl) (hl.1) rfl rfl (Nat.le_of_ble_eq_true rfl) ⟨Nat.le_of_ble_eq_true rfl, Nat.le_of_ble_eq_true rfl⟩ ⟨Nat.le_of_ble_eq_true rfl, Nat.le_of_ble_eq_true rfl⟩ dX10_tankAtRank_136) hW (fun r136 u136 H locs hp136 hW => ?_)
        obtain ⟨hp136, hp136m⟩ := hp136
        have hp136 := hp136.symm
        subst hp136
        have hp136m := hp136m.symm
        subst hp136m
        refine r_iret S hr hlk (F := (mE Z B)) (u := (up1 (up1 ν 0 (upd (ν 0) 0 (nI 0))) 0 (upd ((up1 ν 0 (upd (ν 0) 0 (nI 0))) 0) 0 (nI 1)))) hW ?_ dX10_tankAtRank_139
        have e : t = nt := by omega
        rw [e] at hno
        refine Or.inr ⟨hno, rfl, ?_⟩
        simp only [up1_s, up1_2, upd_2]
      · refine lv_iconst (v := (nI 0)) hxe hcd dX10_tankAtRank_17 (by decide) ?_
        refine lv_istore_n (lv' := [(3, .int (nI 0)), (0, .ref (B 0)), (1, .int x), (2, .int (nI t))]) hxe hcd dX10_tankAtRank_18 rfl hl (by decide) rfl (fun ls hl => ?_)
        refine lv_iconst (v := (nI 0)) hxe hcd dX10_tankAtRank_19 (by decide) ?_
        refine lv_istore (lv' := [(4, .int (nI 0)), (3, .int (nI 0)), (0, .ref (B 0)), (1, .int x), (2, .int (nI t))]) hxe hcd dX10_tankAtRank_20 hl (by decide) rfl (fun ls hl => ?_)
        have loop22 : ∀ (n_ : Nat) (o : Nat), nt - o < n_ → (o ≤ nt) → ∀ (H : Heap) (locs : List Loc) (ls : Array Slot), wX Z mds B (mE Z B (up1 ν 0 (upd (ν 0) 0 (nI 0)))) (fA mds B (mE Z B ν) s.heap.size) s H locs → lv_has ls 6 [(0, .ref (B 0)), (1, .int x), (2, .int (nI t)), (3, .int (nI (rkN (ν 1) t o))), (4, .int (nI o))] → W p l e (rmD 1 0 0) s m ([.ref (B 0), .int x] : List Value).toArray below meth c H locs 0 0 (MQ below (va_Qi (fun r u => (∃ t, t < nt ∧ nI (rkN (ν 1) t nt) = x ∧ (∀ t2, t2 < t → ¬ nI (rkN (ν 1) t2 nt) = x) ∧ r = nI t ∧ u = up1 ν 0 (upd (ν 0) 0 (nI 0))) ∨ ((∀ t2, t2 < nt → ¬ nI (rkN (ν 1) t2 nt) = x) ∧ r = nI 0 ∧ u = up1 ν 0 (upd (ν 0) 0 (nI 1)))) (fun u t => qB Z mds B ((mE Z B) u) (fA mds B (mE Z B ν) s.heap.size) t) (fA mds B (mE Z B ν) s.heap.size)) ([.ref (B 0), .int x] : List Value).toArray s 0 0 (fA mds B (mE Z B ν) s.heap.size)) (F0 m 22 ls []) := by
          intro n_
          induction n_ with
          | zero => intro o hm; exact absurd hm (Nat.not_lt_zero _)
          | succ n_ ih22 =>
            intro o hm ho H locs ls hW hl
            have hrk := rkN_le (ν 1) t o
            refine lv_iload hxe hcd dX10_tankAtRank_22 (lv_at hl 4 rfl) ?_
            refine lv_aload_n hxe hcd dX10_tankAtRank_24 rfl (lv_at hl 0 rfl) ?_
            refine gf_X10_16 S hW dX10_tankAtRank_25 ?_
            refine lv_iconst (v := (nI 1)) hxe hcd dX10_tankAtRank_28 (by decide) ?_
            refine gm_ald S hW (i := 1) (k := 1) (n := 1357) (by decide) (by decide) rfl (by omega) dX10_tankAtRank_29 ?_
            refine r_as (y := (nI nt)) (hnt) ?_
            refine n_ge S (a := o) (b := nt) (by omega) (by omega) dX10_tankAtRank_30 (tgt := 121) (by decide) (fun c30 => ?_) (fun c30 => ?_)
            · have heo : o = nt := by omega
              subst heo
              refine lv_iload_n hxe hcd dX10_tankAtRank_121 rfl (lv_at hl 3 rfl) ?_
              refine lv_iload_n hxe hcd dX10_tankAtRank_122 rfl (lv_at hl 1 rfl) ?_
              refine lv_icmp_ne (tgt := 128) hxe hcd dX10_tankAtRank_123 (by decide) (fun c123 => ?_) (fun c123 => ?_)
              · refine lv_iinc (v := (nI (t + 1))) (lv' := [(2, .int (nI (t + 1))), (0, .ref (B 0)), (1, .int x), (3, .int (nI (rkN (ν 1) t o))), (4, .int (nI o))]) hxe hcd dX10_tankAtRank_128 hl (k := 2) rfl (nI_add t 1) (by decide) rfl (fun ls hl => ?_)
                refine lv_goto (tgt := 7) hxe hcd dX10_tankAtRank_131 (by decide) ?_
                exact ih7 (t + 1) (by omega) (by omega) (fun t2 h2 => by rcases Nat.lt_succ_iff_lt_or_eq.mp h2 with h | h; exact hno t2 h; rw [h]; exact c123) _ _ _ hW (lv_sub hl [1, 2, 0] rfl)
              · refine lv_iload_n hxe hcd dX10_tankAtRank_126 rfl (lv_at hl 2 rfl) ?_
                refine r_iret S hr hlk (F := (mE Z B)) (u := (up1 ν 0 (upd (ν 0) 0 (nI 0)))) hW ?_ dX10_tankAtRank_127
                exact Or.inl ⟨t, by omega, c123, hno, rfl, rfl⟩
            · refine lv_aload_n hxe hcd dX10_tankAtRank_33 rfl (lv_at hl 0 rfl) ?_
              refine gf_X10_16 S hW dX10_tankAtRank_34 ?_
              refine lv_iload hxe hcd dX10_tankAtRank_37 (lv_at hl 4 rfl) ?_
              refine lv_iconst (v := (nI 2)) hxe hcd dX10_tankAtRank_39 (by decide) ?_
              refine r_calli0 (r_runS hZ S hW (As := [.int (nI o), .int (nI 2)]) (rest := [.ref (B 1)]) (t_X10_of l hZ mds B (mE Z B (up1 ν 0 (upd (ν 0) 0 (nI 0)))) H.size (t := o) (w := 2)) k_X10_144 (hl.1) rfl rfl (Nat.le_of_ble_eq_true rfl) ⟨Nat.le_of_ble_eq_true rfl, Nat.le_of_ble_eq_true rfl⟩ ⟨Nat.le_of_ble_eq_true rfl, Nat.le_of_ble_eq_true rfl⟩ dX10_tankAtRank_40) hW (fun r40 H locs hp40 hW => ?_)
              have hp40 := hp40.symm
              subst hp40
              refine gm_ald S hW (i := 1) (k := (29 + 12 * o + 2)) (n := 1357) (by decide) (by decide) rfl (by omega) dX10_tankAtRank_43 ?_
              refine r_as (y := (nI (lv o))) ((hV o (by omega)).2.1) ?_
              refine lv_aload_n hxe hcd dX10_tankAtRank_44 rfl (lv_at hl 0 rfl) ?_
              refine gf_X10_16 S hW dX10_tankAtRank_45 ?_
              refine lv_iload_n hxe hcd dX10_tankAtRank_48 rfl (lv_at hl 2 rfl) ?_
              refine lv_iconst (v := (nI 2)) hxe hcd dX10_tankAtRank_49 (by decide) ?_
              refine r_calli0 (r_runS hZ S hW (As := [.int (nI t), .int (nI 2)]) (rest := [.ref (B 1), .int (nI (lv o))]) (t_X10_of l hZ mds B (mE Z B (up1 ν 0 (upd (ν 0) 0 (nI 0)))) H.size (t := t) (w := 2)) k_X10_144 (hl.1) rfl rfl (Nat.le_of_ble_eq_true rfl) ⟨Nat.le_of_ble_eq_true rfl, Nat.le_of_ble_eq_true rfl⟩ ⟨Nat.le_of_ble_eq_true rfl, Nat.le_of_ble_eq_true rfl⟩ dX10_tankAtRank_50) hW (fun r50 H locs hp50 hW => ?_)
              have hp50 := hp50.symm
              subst hp50
              refine gm_ald S hW (i := 1) (k := (29 + 12 * t + 2)) (n := 1357) (by decide) (by decide) rfl (by omega) dX10_tankAtRank_53 ?_
              refine r_as (y := (nI (lv t))) ((hV t (by omega)).2.1) ?_
              have hvo := hV o (by omega)
              have hvt := hV t (by omega)
              refine lv_isub hxe hcd dX10_tankAtRank_54 ?_
              refine lv_istore (lv' := [(5, .int ((nI (lv o)) - (nI (lv t)))), (0, .ref (B 0)), (1, .int x), (2, .int (nI t)), (3, .int (nI (rkN (ν 1) t o))), (4, .int (nI o))]) hxe hcd dX10_tankAtRank_55 hl (by decide) rfl (fun ls hl => ?_)
              refine lv_iload hxe hcd dX10_tankAtRank_57 (lv_at hl 0 rfl) ?_
              refine lv_if_eq (tgt := 67) hxe hcd dX10_tankAtRank_59 (by decide) (fun c59 => ?_) (fun c59 => ?_)
              · refine lv_aload_n hxe hcd dX10_tankAtRank_67 rfl (lv_at hl 1 rfl) ?_
                refine gf_X10_16 S hW dX10_tankAtRank_68 ?_
                refine lv_iload_n hxe hcd dX10_tankAtRank_71 rfl (lv_at hl 3 rfl) ?_
                refine lv_iconst (v := (nI 0)) hxe hcd dX10_tankAtRank_72 (by decide) ?_
                refine r_calli0 (r_runS hZ S hW (As := [.int (nI t), .int (nI 0)]) (rest := [.ref (B 1)]) (t_X10_of l hZ mds B (mE Z B (up1 ν 0 (upd (ν 0) 0 (nI 0)))) H.size (t := t) (w := 0)) k_X10_144 (hl.1) rfl rfl (Nat.le_of_ble_eq_true rfl) ⟨Nat.le_of_ble_eq_true rfl, Nat.le_of_ble_eq_true rfl⟩ ⟨Nat.le_of_ble_eq_true rfl, Nat.le_of_ble_eq_true rfl⟩ dX10_tankAtRank_73) hW (fun r73 H locs hp73 hW => ?_)
                have hp73 := hp73.symm
                subst hp73
                refine gm_ald S hW (i := 1) (k := (29 + 12 * t + 0)) (n := 1357) (by decide) (by decide) rfl (by omega) dX10_tankAtRank_76 ?_
                refine r_as (y := (nI (cp t))) ((hV t (by omega)).1) ?_
                refine lv_aload_n hxe hcd dX10_tankAtRank_77 rfl (lv_at hl 1 rfl) ?_
                refine gf_X10_16 S hW dX10_tankAtRank_78 ?_
                refine lv_iload hxe hcd dX10_tankAtRank_81 (lv_at hl 5 rfl) ?_
                refine lv_iconst (v := (nI 0)) hxe hcd dX10_tankAtRank_83 (by decide) ?_
                refine r_calli0 (r_runS hZ S hW (As := [.int (nI o), .int (nI 0)]) (rest := [.ref (B 1), .int (nI (cp t))]) (t_X10_of l hZ mds B (mE Z B (up1 ν 0 (upd (ν 0) 0 (nI 0)))) H.size (t := o) (w := 0)) k_X10_144 (hl.1) rfl rfl (Nat.le_of_ble_eq_true rfl) ⟨Nat.le_of_ble_eq_true rfl, Nat.le_of_ble_eq_true rfl⟩ ⟨Nat.le_of_ble_eq_true rfl, Nat.le_of_ble_eq_true rfl⟩ dX10_tankAtRank_84) hW (fun r84 H locs hp84 hW => ?_)
                have hp84 := hp84.symm
                subst hp84
                refine gm_ald S hW (i := 1) (k := (29 + 12 * o + 0)) (n := 1357) (by decide) (by decide) rfl (by omega) dX10_tankAtRank_87 ?_
                refine r_as (y := (nI (cp o))) ((hV o (by omega)).1) ?_
                refine lv_isub hxe hcd dX10_tankAtRank_88 ?_
                refine lv_istore (lv' := [(5, .int ((nI (cp t)) - (nI (cp o)))), (0, .ref (B 0)), (1, .int x), (2, .int (nI t)), (3, .int (nI (rkN (ν 1) t o))), (4, .int (nI o))]) hxe hcd dX10_tankAtRank_89 hl (by decide) rfl (fun ls hl => ?_)
                refine lv_iload_n hxe hcd dX10_tankAtRank_91 rfl (lv_at hl 4 rfl) ?_
                refine lv_iload hxe hcd dX10_tankAtRank_92 (lv_at hl 0 rfl) ?_
                refine lv_if_gt (tgt := 108) hxe hcd dX10_tankAtRank_94 (by decide) (fun c94 => ?_) (fun c94 => ?_)
                · refine lv_iconst (v := (nI 1)) hxe hcd dX10_tankAtRank_108 (by decide) ?_
                  refine lv_goto (tgt := 113) hxe hcd dX10_tankAtRank_109 (by decide) ?_
                  refine n_iadd S (a := (rkN (ν 1) t o)) (b := 1) dX10_tankAtRank_113 ?_
                  refine lv_istore_n (lv' := [(3, .int (nI ((rkN (ν 1) t o) + 1))), (5, .int ((nI (cp t)) - (nI (cp o)))), (0, .ref (B 0)), (1, .int x), (2, .int (nI t)), (4, .int (nI o))]) hxe hcd dX10_tankAtRank_114 rfl hl (by decide) rfl (fun ls hl => ?_)
                  refine lv_iinc (v := (nI (o + 1))) (lv' := [(4, .int (nI (o + 1))), (3, .int (nI ((rkN (ν 1) t o) + 1))), (5, .int ((nI (cp t)) - (nI (cp o)))), (0, .ref (B 0)), (1, .int x), (2, .int (nI t))]) hxe hcd dX10_tankAtRank_115 hl (k := 5) rfl (nI_add o 1) (by decide) rfl (fun ls hl => ?_)
                  refine lv_goto (tgt := 22) hxe hcd dX10_tankAtRank_118 (by decide) ?_
                  have hl : lv_has ls 6 [(4, .int (nI (o + 1))), (3, .int (nI (rkN (ν 1) t (o + 1)))), (0, .ref (B 0)), (1, .int x), (2, .int (nI t))] := by
                    have hel := (sb_eq (by omega) (by omega)).mp c59
                    rw [rkN_y hV (by omega) (by omega) (AHV_cl hel ((sb_gt (by omega) (by omega)).mp c94))]
                    exact lv_sub hl [0, 1, 3, 4, 5] rfl
                  exact ih22 (o + 1) (by omega) (by omega) _ _ _ hW (lv_sub hl [2, 3, 4, 1, 0] rfl)
                · refine lv_iload hxe hcd dX10_tankAtRank_97 (lv_at hl 0 rfl) ?_
                  refine lv_if_ne (tgt := 112) hxe hcd dX10_tankAtRank_99 (by decide) (fun c99 => ?_) (fun c99 => ?_)
                  · refine lv_iconst (v := (nI 0)) hxe hcd dX10_tankAtRank_112 (by decide) ?_
                    refine n_iadd S (a := (rkN (ν 1) t o)) (b := 0) dX10_tankAtRank_113 ?_
                    refine lv_istore_n (lv' := [(3, .int (nI ((rkN (ν 1) t o) + 0))), (5, .int ((nI (cp t)) - (nI (cp o)))), (0, .ref (B 0)), (1, .int x), (2, .int (nI t)), (4, .int (nI o))]) hxe hcd dX10_tankAtRank_114 rfl hl (by decide) rfl (fun ls hl => ?_)
                    refine lv_iinc (v := (nI (o + 1))) (lv' := [(4, .int (nI (o + 1))), (3, .int (nI ((rkN (ν 1) t o) + 0))), (5, .int ((nI (cp t)) - (nI (cp o)))), (0, .ref (B 0)), (1, .int x), (2, .int (nI t))]) hxe hcd dX10_tankAtRank_115 hl (k := 5) rfl (nI_add o 1) (by decide) rfl (fun ls hl => ?_)
                    refine lv_goto (tgt := 22) hxe hcd dX10_tankAtRank_118 (by decide) ?_
                    have hl : lv_has ls 6 [(4, .int (nI (o + 1))), (3, .int (nI (rkN (ν 1) t (o + 1)))), (0, .ref (B 0)), (1, .int x), (2, .int (nI t))] := by
                      have hel := (sb_eq (by omega) (by omega)).mp c59
                      rw [rkN_n hV (by omega) (by omega) (AHV_cg hel (sb_ng (by omega) (by omega) c94 c99))]
                      exact lv_sub hl [0, 1, 3, 4, 5] rfl
                    exact ih22 (o + 1) (by omega) (by omega) _ _ _ hW (lv_sub hl [2, 3, 4, 1, 0] rfl)
                  · refine lv_iload hxe hcd dX10_tankAtRank_102 (lv_at hl 5 rfl) ?_
                    refine lv_iload_n hxe hcd dX10_tankAtRank_104 rfl (lv_at hl 3 rfl) ?_
                    refine n_ge S (a := o) (b := t) (by omega) (by omega) dX10_tankAtRank_105 (tgt := 112) (by decide) (fun c105 => ?_) (fun c105 => ?_)
                    · refine lv_iconst (v := (nI 0)) hxe hcd dX10_tankAtRank_112 (by decide) ?_
                      refine n_iadd S (a := (rkN (ν 1) t o)) (b := 0) dX10_tankAtRank_113 ?_
                      refine lv_istore_n (lv' := [(3, .int (nI ((rkN (ν 1) t o) + 0))), (5, .int ((nI (cp t)) - (nI (cp o)))), (0, .ref (B 0)), (1, .int x), (2, .int (nI t)), (4, .int (nI o))]) hxe hcd dX10_tankAtRank_114 rfl hl (by decide) rfl (fun ls hl => ?_)
                      refine lv_iinc (v := (nI (o + 1))) (lv' := [(4, .int (nI (o + 1))), (3, .int (nI ((rkN (ν 1) t o) + 0))), (5, .int ((nI (cp t)) - (nI (cp o)))), (0, .ref (B 0)), (1, .int x), (2, .int (nI t))]) hxe hcd dX10_tankAtRank_115 hl (k := 5) rfl (nI_add o 1) (by decide) rfl (fun ls hl => ?_)
                      refine lv_goto (tgt := 22) hxe hcd dX10_tankAtRank_118 (by decide) ?_
                      have hl : lv_has ls 6 [(4, .int (nI (o + 1))), (3, .int (nI (rkN (ν 1) t (o + 1)))), (0, .ref (B 0)), (1, .int x), (2, .int (nI t))] := by
                        have hel := (sb_eq (by omega) (by omega)).mp c59
                        have hec := (sb_eq (by omega) (by omega)).mp c99
                        rw [rkN_n hV (by omega) (by omega) (fun h => by have h2 := (AHV_ee hel hec.symm).mp h; omega)]
                        exact lv_sub hl [0, 1, 3, 4, 5] rfl
                      exact ih22 (o + 1) (by omega) (by omega) _ _ _ hW (lv_sub hl [2, 3, 4, 1, 0] rfl)
                    · refine lv_iconst (v := (nI 1)) hxe hcd dX10_tankAtRank_108 (by decide) ?_
                      refine lv_goto (tgt := 113) hxe hcd dX10_tankAtRank_109 (by decide) ?_
                      refine n_iadd S (a := (rkN (ν 1) t o)) (b := 1) dX10_tankAtRank_113 ?_
                      refine lv_istore_n (lv' := [(3, .int (nI ((rkN (ν 1) t o) + 1))), (5, .int ((nI (cp t)) - (nI (cp o)))), (0, .ref (B 0)), (1, .int x), (2, .int (nI t)), (4, .int (nI o))]) hxe hcd dX10_tankAtRank_114 rfl hl (by decide) rfl (fun ls hl => ?_)
                      refine lv_iinc (v := (nI (o + 1))) (lv' := [(4, .int (nI (o + 1))), (3, .int (nI ((rkN (ν 1) t o) + 1))), (5, .int ((nI (cp t)) - (nI (cp o)))), (0, .ref (B 0)), (1, .int x), (2, .int (nI t))]) hxe hcd dX10_tankAtRank_115 hl (k := 5) rfl (nI_add o 1) (by decide) rfl (fun ls hl => ?_)
                      refine lv_goto (tgt := 22) hxe hcd dX10_tankAtRank_118 (by decide) ?_
                      have hl : lv_has ls 6 [(4, .int (nI (o + 1))), (3, .int (nI (rkN (ν 1) t (o + 1)))), (0, .ref (B 0)), (1, .int x), (2, .int (nI t))] := by
                        have hel := (sb_eq (by omega) (by omega)).mp c59
                        have hec := (sb_eq (by omega) (by omega)).mp c99
                        rw [rkN_y hV (by omega) (by omega) ((AHV_ee hel hec.symm).mpr (by omega))]
                        exact lv_sub hl [0, 1, 3, 4, 5] rfl
                      exact ih22 (o + 1) (by omega) (by omega) _ _ _ hW (lv_sub hl [2, 3, 4, 1, 0] rfl)
              · refine lv_iload hxe hcd dX10_tankAtRank_62 (lv_at hl 0 rfl) ?_
                refine lv_goto (tgt := 89) hxe hcd dX10_tankAtRank_64 (by decide) ?_
                refine lv_istore (lv' := [(5, .int ((nI (lv o)) - (nI (lv t)))), (0, .ref (B 0)), (1, .int x), (2, .int (nI t)), (3, .int (nI (rkN (ν 1) t o))), (4, .int (nI o))]) hxe hcd dX10_tankAtRank_89 hl (by decide) rfl (fun ls hl => ?_)
                refine lv_iload_n hxe hcd dX10_tankAtRank_91 rfl (lv_at hl 4 rfl) ?_
                refine lv_iload hxe hcd dX10_tankAtRank_92 (lv_at hl 0 rfl) ?_
                refine lv_if_gt (tgt := 108) hxe hcd dX10_tankAtRank_94 (by decide) (fun c94 => ?_) (fun c94 => ?_)
                · refine lv_iconst (v := (nI 1)) hxe hcd dX10_tankAtRank_108 (by decide) ?_
                  refine lv_goto (tgt := 113) hxe hcd dX10_tankAtRank_109 (by decide) ?_
                  refine n_iadd S (a := (rkN (ν 1) t o)) (b := 1) dX10_tankAtRank_113 ?_
                  refine lv_istore_n (lv' := [(3, .int (nI ((rkN (ν 1) t o) + 1))), (5, .int ((nI (lv o)) - (nI (lv t)))), (0, .ref (B 0)), (1, .int x), (2, .int (nI t)), (4, .int (nI o))]) hxe hcd dX10_tankAtRank_114 rfl hl (by decide) rfl (fun ls hl => ?_)
                  refine lv_iinc (v := (nI (o + 1))) (lv' := [(4, .int (nI (o + 1))), (3, .int (nI ((rkN (ν 1) t o) + 1))), (5, .int ((nI (lv o)) - (nI (lv t)))), (0, .ref (B 0)), (1, .int x), (2, .int (nI t))]) hxe hcd dX10_tankAtRank_115 hl (k := 5) rfl (nI_add o 1) (by decide) rfl (fun ls hl => ?_)
                  refine lv_goto (tgt := 22) hxe hcd dX10_tankAtRank_118 (by decide) ?_
                  have hl : lv_has ls 6 [(4, .int (nI (o + 1))), (3, .int (nI (rkN (ν 1) t (o + 1)))), (0, .ref (B 0)), (1, .int x), (2, .int (nI t))] := by
                    rw [rkN_y hV (by omega) (by omega) (AHV_gt ((sb_gt (by omega) (by omega)).mp c94))]
                    exact lv_sub hl [0, 1, 3, 4, 5] rfl
                  exact ih22 (o + 1) (by omega) (by omega) _ _ _ hW (lv_sub hl [2, 3, 4, 1, 0] rfl)
                · refine lv_iload hxe hcd dX10_tankAtRank_97 (lv_at hl 0 rfl) ?_
                  refine lv_if_ne (tgt := 112) hxe hcd dX10_tankAtRank_99 (by decide) (fun c99 => ?_) (fun c99 => ?_)
                  · refine lv_iconst (v := (nI 0)) hxe hcd dX10_tankAtRank_112 (by decide) ?_
                    refine n_iadd S (a := (rkN (ν 1) t o)) (b := 0) dX10_tankAtRank_113 ?_
                    refine lv_istore_n (lv' := [(3, .int (nI ((rkN (ν 1) t o) + 0))), (5, .int ((nI (lv o)) - (nI (lv t)))), (0, .ref (B 0)), (1, .int x), (2, .int (nI t)), (4, .int (nI o))]) hxe hcd dX10_tankAtRank_114 rfl hl (by decide) rfl (fun ls hl => ?_)
                    refine lv_iinc (v := (nI (o + 1))) (lv' := [(4, .int (nI (o + 1))), (3, .int (nI ((rkN (ν 1) t o) + 0))), (5, .int ((nI (lv o)) - (nI (lv t)))), (0, .ref (B 0)), (1, .int x), (2, .int (nI t))]) hxe hcd dX10_tankAtRank_115 hl (k := 5) rfl (nI_add o 1) (by decide) rfl (fun ls hl => ?_)
                    refine lv_goto (tgt := 22) hxe hcd dX10_tankAtRank_118 (by decide) ?_
                    have hl : lv_has ls 6 [(4, .int (nI (o + 1))), (3, .int (nI (rkN (ν 1) t (o + 1)))), (0, .ref (B 0)), (1, .int x), (2, .int (nI t))] := by
                      rw [rkN_n hV (by omega) (by omega) (AHV_ls (sb_ng (by omega) (by omega) c94 c59))]
                      exact lv_sub hl [0, 1, 3, 4, 5] rfl
                    exact ih22 (o + 1) (by omega) (by omega) _ _ _ hW (lv_sub hl [2, 3, 4, 1, 0] rfl)
                  · exact absurd c99 c59
        exact loop22 (nt + 1) 0 (Nat.lt_succ_self _) (Nat.zero_le _) _ _ _ hW (lv_sub hl [2, 3, 4, 1, 0] rfl)
  exact loop7 (nt + 1) 0 (Nat.lt_succ_self _) (Nat.zero_le _) (fun t2 h => absurd h (Nat.not_lt_zero _)) _ _ _ hW (lv_sub hl [1, 2, 0] rfl)
set_option maxHeartbeats 4000000 in
set_option maxRecDepth 100000 in
theorem t_X10_append (l : Launch) {Z : ZT} (hZ : zOK Z) (B : Nat → Nat) (ν : MM) (sz : Nat) {tn : Nat} (htn : ν 0 17 = nI tn) (htn60 : tn ≤ 60) (x : Int32) : XMi l yX10_append cX10_append 2 (some .int) 1 [.ref (B 0), .int x] Z mds B (mE Z B) ν sz (fun r u => (¬ (nI 32 ≤ x ∧ x ≤ nI 126) ∧ r = nI 0 ∧ u = up1 ν 0 (upd (ν 0) 0 (nI 1))) ∨ ((nI 32 ≤ x ∧ x ≤ nI 126) ∧ tn = 60 ∧ r = nI 0 ∧ u = up1 ν 0 (upd (ν 0) 0 (nI 2))) ∨ ((nI 32 ≤ x ∧ x ≤ nI 126) ∧ tn < 60 ∧ r = nI (tn + 1) ∧ u = up1 (up1 ν 0 (upd (upd (ν 0) 0 (nI 0)) 17 (nI (tn + 1)))) 8 (upd (ν 8) tn x))) := by
  refine r_met (E := (mE Z B ν)) (by decide +kernel) (Nat.le_of_ble_eq_true rfl) ?_
  intro p e s m below meth c ls S hr hlk hnm hsz hW hl
  have hxe := S.1
  have hcd := S.2.1
  subst hsz
  have hl : lv_has ls 2 [(0, .ref (B 0)), (1, .int x)] := hl
  refine lv_aload_n hxe hcd dX10_append_0 rfl (lv_at hl 0 rfl) ?_
  refine lv_iload_n hxe hcd dX10_append_1 rfl (lv_at hl 1 rfl) ?_
  refine lv_bipush (v := (nI 32)) hxe hcd dX10_append_2 (by decide) ?_
  refine lv_bipush (v := (nI 126)) hxe hcd dX10_append_4 (by decide) ?_
  refine r_calli0 (r_runS hZ S hW (As := [.int x, .int (nI 32), .int (nI 126)]) (rest := [.ref (B 0)]) (t_X10_isIn l hZ mds B (mE Z B ν) s.heap.size x (nI 32) (nI 126)) k_X10_63 (hl.1) rfl rfl (Nat.le_of_ble_eq_true rfl) ⟨Nat.le_of_ble_eq_true rfl, Nat.le_of_ble_eq_true rfl⟩ ⟨Nat.le_of_ble_eq_true rfl, Nat.le_of_ble_eq_true rfl⟩ dX10_append_6) hW (fun r6 H locs hp6 hW => ?_)
  rcases hp6 with ⟨hp60, hp6⟩ | ⟨hp60, hp6⟩
  · subst hp60
    refine lv_if_ne (tgt := 16) hxe hcd dX10_append_9 (by decide) (fun _ => ?_) (fun h => absurd h (by decide))
    refine lv_aload_n hxe hcd dX10_append_16 rfl (lv_at hl 0 rfl) ?_
    refine gf_X10_177 S hW dX10_append_17 ?_
    refine r_as (y := (nI tn)) (htn) ?_
    refine lv_bipush (v := (nI 60)) hxe hcd dX10_append_20 (by decide) ?_
    refine n_ne S (a := tn) (b := 60) (by omega) (by omega) dX10_append_22 (tgt := 29) (by decide) (fun c22 => ?_) (fun c22 => ?_)
    · refine lv_iconst (v := (nI 0)) hxe hcd dX10_append_29 (by decide) ?_
      refine gp_X10_53 S hW dX10_append_30 (fun H locs hW => ?_)
      refine lv_aload_n hxe hcd dX10_append_33 rfl (lv_at hl 0 rfl) ?_
      refine gf_X10_53 S hW dX10_append_34 ?_
      refine r_as (y := (nI 0)) (by rw [up1_s, upd_s]) ?_
      refine lv_if_eq (tgt := 42) hxe hcd dX10_append_37 (by decide) (fun _ => ?_) (fun h => absurd (by decide) h)
      refine lv_aload_n hxe hcd dX10_append_42 rfl (lv_at hl 0 rfl) ?_
      refine gf_X10_38 S hW dX10_append_43 ?_
      refine lv_aload_n hxe hcd dX10_append_46 rfl (lv_at hl 0 rfl) ?_
      refine gf_X10_177 S hW dX10_append_47 ?_
      refine r_as (y := (nI tn)) (by rw [up1_s, upd_o (by decide), htn]) ?_
      refine lv_iload_n hxe hcd dX10_append_50 rfl (lv_at hl 1 rfl) ?_
      refine gm_ast S hW (i := 8) (k := tn) (n := 60) (by decide) (by decide) rfl (by omega) dX10_append_51 (fun H locs hW => ?_)
      refine lv_aload_n hxe hcd dX10_append_52 rfl (lv_at hl 0 rfl) ?_
      refine lv_dup hxe hcd dX10_append_53 rfl ?_
      refine gf_X10_177 S hW dX10_append_54 ?_
      refine r_as (y := (nI tn)) (by rw [up1_o (j := 0) (i := 8) (by decide), up1_s, upd_o (by decide), htn]) ?_
      refine lv_iconst (v := (nI 1)) hxe hcd dX10_append_57 (by decide) ?_
      refine n_iadd S (a := tn) (b := 1) dX10_append_58 ?_
      refine gp_X10_177 S hW dX10_append_59 (fun H locs hW => ?_)
      refine lv_aload_n hxe hcd dX10_append_62 rfl (lv_at hl 0 rfl) ?_
      refine gf_X10_177 S hW dX10_append_63 ?_
      refine r_as (y := (nI (tn + 1))) (by rw [up1_s, upd_s]) ?_
      refine r_iret S hr hlk (F := (mE Z B)) (u := (up1 (up1 (up1 ν 0 (upd (ν 0) 0 (nI 0))) 8 (upd ((up1 ν 0 (upd (ν 0) 0 (nI 0))) 8) tn x)) 0 (upd ((up1 (up1 ν 0 (upd (ν 0) 0 (nI 0))) 8 (upd ((up1 ν 0 (upd (ν 0) 0 (nI 0))) 8) tn x)) 0) 17 (nI (tn + 1))))) hW ?_ dX10_append_66
      refine Or.inr (Or.inr ⟨hp6, by omega, rfl, ?_⟩)
      rw [up1_o (j := 0) (i := 8) (by decide), up1_s, up1_c (i := 8) (j := 0) (by decide), up1_2]
      rfl
    · refine lv_iconst (v := (nI 2)) hxe hcd dX10_append_25 (by decide) ?_
      refine lv_goto (tgt := 30) hxe hcd dX10_append_26 (by decide) ?_
      refine gp_X10_53 S hW dX10_append_30 (fun H locs hW => ?_)
      refine lv_aload_n hxe hcd dX10_append_33 rfl (lv_at hl 0 rfl) ?_
      refine gf_X10_53 S hW dX10_append_34 ?_
      refine r_as (y := (nI 2)) (by rw [up1_s, upd_s]) ?_
      refine lv_if_eq (tgt := 42) hxe hcd dX10_append_37 (by decide) (fun h => absurd h (by decide)) (fun _ => ?_)
      refine lv_iconst (v := (nI 0)) hxe hcd dX10_append_40 (by decide) ?_
      refine r_iret S hr hlk (F := (mE Z B)) (u := (up1 ν 0 (upd (ν 0) 0 (nI 2)))) hW ?_ dX10_append_41
      exact Or.inr (Or.inl ⟨hp6, by omega, rfl, rfl⟩)
  · subst hp60
    refine lv_if_ne (tgt := 16) hxe hcd dX10_append_9 (by decide) (fun h => absurd h (by decide)) (fun _ => ?_)
    refine lv_iconst (v := (nI 1)) hxe hcd dX10_append_12 (by decide) ?_
    refine lv_goto (tgt := 30) hxe hcd dX10_append_13 (by decide) ?_
    refine gp_X10_53 S hW dX10_append_30 (fun H locs hW => ?_)
    refine lv_aload_n hxe hcd dX10_append_33 rfl (lv_at hl 0 rfl) ?_
    refine gf_X10_53 S hW dX10_append_34 ?_
    refine r_as (y := (nI 1)) (by rw [up1_s, upd_s]) ?_
    refine lv_if_eq (tgt := 42) hxe hcd dX10_append_37 (by decide) (fun h => absurd h (by decide)) (fun _ => ?_)
    refine lv_iconst (v := (nI 0)) hxe hcd dX10_append_40 (by decide) ?_
    refine r_iret S hr hlk (F := (mE Z B)) (u := (up1 ν 0 (upd (ν 0) 0 (nI 1)))) hW ?_ dX10_append_41
    exact Or.inl ⟨hp6, rfl, rfl⟩
set_option maxHeartbeats 4000000 in
set_option maxRecDepth 100000 in
theorem t_X10_errorPosition (l : Launch) {Z : ZT} (hZ : zOK Z) (B : Nat → Nat) (ν : MM) (sz : Nat)  : XMi l yX10_errorPosition cX10_errorPosition 1 (some .int) 0 [.ref (B 0)] Z mds B (mE Z B) ν sz (fun r u => (ν 0 2 < 0 ∧ r = nI 0 ∧ u = up1 ν 0 (upd (ν 0) 0 (nI 1))) ∨ (¬ ν 0 2 < 0 ∧ r = ν 0 2 ∧ u = up1 ν 0 (upd (ν 0) 0 (nI 0)))) := by
  refine r_met (E := (mE Z B ν)) (by decide +kernel) (Nat.le_of_ble_eq_true rfl) ?_
  intro p e s m below meth c ls S hr hlk hnm hsz hW hl
  have hxe := S.1
  have hcd := S.2.1
  subst hsz
  have hl : lv_has ls 1 [(0, .ref (B 0))] := hl
  refine lv_aload_n hxe hcd dX10_errorPosition_0 rfl (lv_at hl 0 rfl) ?_
  refine lv_aload_n hxe hcd dX10_errorPosition_1 rfl (lv_at hl 0 rfl) ?_
  refine gf_X10_7 S hW dX10_errorPosition_2 ?_
  refine lv_if_ge (tgt := 12) hxe hcd dX10_errorPosition_5 (by decide) (fun c5 => ?_) (fun c5 => ?_)
  · refine lv_iconst (v := (nI 0)) hxe hcd dX10_errorPosition_12 (by decide) ?_
    refine gp_X10_53 S hW dX10_errorPosition_13 (fun H locs hW => ?_)
    refine lv_aload_n hxe hcd dX10_errorPosition_16 rfl (lv_at hl 0 rfl) ?_
    refine gf_X10_53 S hW dX10_errorPosition_17 ?_
    refine r_as (y := (nI 0)) (by rw [up1_s, upd_s]) ?_
    refine lv_if_ne (tgt := 30) hxe hcd dX10_errorPosition_20 (by decide) (fun h => absurd h (by decide)) (fun _ => ?_)
    refine lv_aload_n hxe hcd dX10_errorPosition_23 rfl (lv_at hl 0 rfl) ?_
    refine gf_X10_7 S hW dX10_errorPosition_24 ?_
    refine lv_goto (tgt := 31) hxe hcd dX10_errorPosition_27 (by decide) ?_
    refine r_iret S hr hlk (F := (mE Z B)) (u := (up1 ν 0 (upd (ν 0) 0 (nI 0)))) hW ?_ dX10_errorPosition_31
    exact Or.inr ⟨I_nlt.mpr c5, rfl, rfl⟩
  · refine lv_iconst (v := (nI 1)) hxe hcd dX10_errorPosition_8 (by decide) ?_
    refine lv_goto (tgt := 13) hxe hcd dX10_errorPosition_9 (by decide) ?_
    refine gp_X10_53 S hW dX10_errorPosition_13 (fun H locs hW => ?_)
    refine lv_aload_n hxe hcd dX10_errorPosition_16 rfl (lv_at hl 0 rfl) ?_
    refine gf_X10_53 S hW dX10_errorPosition_17 ?_
    refine r_as (y := (nI 1)) (by rw [up1_s, upd_s]) ?_
    refine lv_if_ne (tgt := 30) hxe hcd dX10_errorPosition_20 (by decide) (fun _ => ?_) (fun h => absurd h (by decide))
    refine lv_iconst (v := (nI 0)) hxe hcd dX10_errorPosition_30 (by decide) ?_
    refine r_iret S hr hlk (F := (mE Z B)) (u := (up1 ν 0 (upd (ν 0) 0 (nI 1)))) hW ?_ dX10_errorPosition_31
    exact Or.inl ⟨I_nle.mp c5, rfl, rfl⟩
set_option maxHeartbeats 4000000 in
set_option maxRecDepth 100000 in
theorem t_X10_failedCommand (l : Launch) {Z : ZT} (hZ : zOK Z) (B : Nat → Nat) (ν : MM) (sz : Nat)  : XMi l yX10_failedCommand cX10_failedCommand 1 (some .int) 0 [.ref (B 0)] Z mds B (mE Z B) ν sz (fun r u => (ν 0 3 < 0 ∧ r = nI 0 ∧ u = up1 ν 0 (upd (ν 0) 0 (nI 1))) ∨ (¬ ν 0 3 < 0 ∧ r = ν 0 3 ∧ u = up1 ν 0 (upd (ν 0) 0 (nI 0)))) := by
  refine r_met (E := (mE Z B ν)) (by decide +kernel) (Nat.le_of_ble_eq_true rfl) ?_
  intro p e s m below meth c ls S hr hlk hnm hsz hW hl
  have hxe := S.1
  have hcd := S.2.1
  subst hsz
  have hl : lv_has ls 1 [(0, .ref (B 0))] := hl
  refine lv_aload_n hxe hcd dX10_failedCommand_0 rfl (lv_at hl 0 rfl) ?_
  refine lv_aload_n hxe hcd dX10_failedCommand_1 rfl (lv_at hl 0 rfl) ?_
  refine gf_X10_13 S hW dX10_failedCommand_2 ?_
  refine lv_if_ge (tgt := 12) hxe hcd dX10_failedCommand_5 (by decide) (fun c5 => ?_) (fun c5 => ?_)
  · refine lv_iconst (v := (nI 0)) hxe hcd dX10_failedCommand_12 (by decide) ?_
    refine gp_X10_53 S hW dX10_failedCommand_13 (fun H locs hW => ?_)
    refine lv_aload_n hxe hcd dX10_failedCommand_16 rfl (lv_at hl 0 rfl) ?_
    refine gf_X10_53 S hW dX10_failedCommand_17 ?_
    refine r_as (y := (nI 0)) (by rw [up1_s, upd_s]) ?_
    refine lv_if_ne (tgt := 30) hxe hcd dX10_failedCommand_20 (by decide) (fun h => absurd h (by decide)) (fun _ => ?_)
    refine lv_aload_n hxe hcd dX10_failedCommand_23 rfl (lv_at hl 0 rfl) ?_
    refine gf_X10_13 S hW dX10_failedCommand_24 ?_
    refine lv_goto (tgt := 31) hxe hcd dX10_failedCommand_27 (by decide) ?_
    refine r_iret S hr hlk (F := (mE Z B)) (u := (up1 ν 0 (upd (ν 0) 0 (nI 0)))) hW ?_ dX10_failedCommand_31
    exact Or.inr ⟨I_nlt.mpr c5, rfl, rfl⟩
  · refine lv_iconst (v := (nI 1)) hxe hcd dX10_failedCommand_8 (by decide) ?_
    refine lv_goto (tgt := 13) hxe hcd dX10_failedCommand_9 (by decide) ?_
    refine gp_X10_53 S hW dX10_failedCommand_13 (fun H locs hW => ?_)
    refine lv_aload_n hxe hcd dX10_failedCommand_16 rfl (lv_at hl 0 rfl) ?_
    refine gf_X10_53 S hW dX10_failedCommand_17 ?_
    refine r_as (y := (nI 1)) (by rw [up1_s, upd_s]) ?_
    refine lv_if_ne (tgt := 30) hxe hcd dX10_failedCommand_20 (by decide) (fun _ => ?_) (fun h => absurd h (by decide))
    refine lv_iconst (v := (nI 0)) hxe hcd dX10_failedCommand_30 (by decide) ?_
    refine r_iret S hr hlk (F := (mE Z B)) (u := (up1 ν 0 (upd (ν 0) 0 (nI 1)))) hW ?_ dX10_failedCommand_31
    exact Or.inl ⟨I_nle.mp c5, rfl, rfl⟩
set_option maxHeartbeats 4000000 in
set_option maxRecDepth 100000 in
theorem t_X10_lineAt (l : Launch) {Z : ZT} (hZ : zOK Z) (B : Nat → Nat) (ν : MM) (sz : Nat) {lN : Nat} (hlN : ν 0 20 = nI lN) (hlN80 : lN ≤ 80) (hlc : ∀ j, j < lN → CH (ν 9 j)) (x : Int32) : XMi l yX10_lineAt cX10_lineAt 2 (some .char) 1 [.ref (B 0), .int x] Z mds B (mE Z B) ν sz (fun r u => (∃ j, j < lN ∧ x = nI j ∧ r = ν 9 j ∧ u = up1 ν 0 (upd (ν 0) 0 (nI 0))) ∨ (¬ IX x lN ∧ r = nI 97 ∧ u = up1 ν 0 (upd (ν 0) 0 (nI 1)))) := by
  refine r_met (E := (mE Z B ν)) (by decide +kernel) (Nat.le_of_ble_eq_true rfl) ?_
  intro p e s m below meth c ls S hr hlk hnm hsz hW hl
  have hxe := S.1
  have hcd := S.2.1
  subst hsz
  have hl : lv_has ls 2 [(0, .ref (B 0)), (1, .int x)] := hl
  refine lv_aload_n hxe hcd dX10_lineAt_0 rfl (lv_at hl 0 rfl) ?_
  refine lv_iload_n hxe hcd dX10_lineAt_1 rfl (lv_at hl 1 rfl) ?_
  refine lv_iconst (v := (nI 0)) hxe hcd dX10_lineAt_2 (by decide) ?_
  refine lv_aload_n hxe hcd dX10_lineAt_3 rfl (lv_at hl 0 rfl) ?_
  refine gf_X10_219 S hW dX10_lineAt_4 ?_
  refine r_as (y := (nI lN)) (hlN) ?_
  refine lv_iconst (v := (nI 1)) hxe hcd dX10_lineAt_7 (by decide) ?_
  refine lv_isub hxe hcd dX10_lineAt_8 ?_
  refine r_calli0 (r_runS hZ S hW (As := [.int x, .int (nI 0), .int ((nI lN) - (nI 1))]) (rest := [.ref (B 0)]) (t_X10_isIn l hZ mds B (mE Z B ν) s.heap.size x (nI 0) ((nI lN) - (nI 1))) k_X10_63 (hl.1) rfl rfl (Nat.le_of_ble_eq_true rfl) ⟨Nat.le_of_ble_eq_true rfl, Nat.le_of_ble_eq_true rfl⟩ ⟨Nat.le_of_ble_eq_true rfl, Nat.le_of_ble_eq_true rfl⟩ dX10_lineAt_9) hW (fun r9 H locs hp9 hW => ?_)
  rcases hp9 with ⟨hp90, hp9⟩ | ⟨hp90, hp9⟩
  · subst hp90
    rw [IX_sub (by omega)] at hp9
    refine lv_if_eq (tgt := 19) hxe hcd dX10_lineAt_12 (by decide) (fun h => absurd h (by decide)) (fun _ => ?_)
    refine lv_iconst (v := (nI 0)) hxe hcd dX10_lineAt_15 (by decide) ?_
    refine lv_goto (tgt := 20) hxe hcd dX10_lineAt_16 (by decide) ?_
    refine gp_X10_53 S hW dX10_lineAt_20 (fun H locs hW => ?_)
    refine lv_aload_n hxe hcd dX10_lineAt_23 rfl (lv_at hl 0 rfl) ?_
    refine gf_X10_53 S hW dX10_lineAt_24 ?_
    refine r_as (y := (nI 0)) (by rw [up1_s, upd_s]) ?_
    refine lv_if_ne (tgt := 40) hxe hcd dX10_lineAt_27 (by decide) (fun h => absurd h (by decide)) (fun _ => ?_)
    obtain ⟨j, hj, rfl⟩ := hp9
    refine lv_aload_n hxe hcd dX10_lineAt_30 rfl (lv_at hl 0 rfl) ?_
    refine gf_X10_41 S hW dX10_lineAt_31 ?_
    refine lv_iload_n hxe hcd dX10_lineAt_34 rfl (lv_at hl 1 rfl) ?_
    refine gm_ald S hW (i := 9) (k := j) (n := 80) (by decide) (by decide) rfl (by omega) dX10_lineAt_35 ?_
    refine r_as (y := (ν 9 j)) (rfl) ?_
    have hch := hlc j hj
    have hi2 := CH_i2c hch
    refine lv_i2c (v := ν 9 j) hxe hcd dX10_lineAt_36 (by first | rfl | assumption) ?_
    refine lv_goto (tgt := 42) hxe hcd dX10_lineAt_37 (by decide) ?_
    refine r_zret S hr hlk (F := (mE Z B)) (u := (up1 ν 0 (upd (ν 0) 0 (nI 0)))) hW (CH_nar hch) ?_ dX10_lineAt_42
    exact Or.inl ⟨j, hj, rfl, rfl, rfl⟩
  · subst hp90
    rw [IX_sub (by omega)] at hp9
    refine lv_if_eq (tgt := 19) hxe hcd dX10_lineAt_12 (by decide) (fun _ => ?_) (fun h => absurd (by decide) h)
    refine lv_iconst (v := (nI 1)) hxe hcd dX10_lineAt_19 (by decide) ?_
    refine gp_X10_53 S hW dX10_lineAt_20 (fun H locs hW => ?_)
    refine lv_aload_n hxe hcd dX10_lineAt_23 rfl (lv_at hl 0 rfl) ?_
    refine gf_X10_53 S hW dX10_lineAt_24 ?_
    refine r_as (y := (nI 1)) (by rw [up1_s, upd_s]) ?_
    refine lv_if_ne (tgt := 40) hxe hcd dX10_lineAt_27 (by decide) (fun _ => ?_) (fun h => absurd h (by decide))
    refine lv_bipush (v := (nI 97)) hxe hcd dX10_lineAt_40 (by decide) ?_
    refine r_zret S hr hlk (F := (mE Z B)) (u := (up1 ν 0 (upd (ν 0) 0 (nI 1)))) hW (by decide +kernel) ?_ dX10_lineAt_42
    exact Or.inr ⟨hp9, rfl, rfl⟩
set_option maxHeartbeats 4000000 in
set_option maxRecDepth 100000 in
theorem t_X10_isConsistent (l : Launch) {Z : ZT} (hZ : zOK Z) (B : Nat → Nat) (ν : MM) (sz : Nat) {nt : Nat} (hnt : ν 1 1 = nI nt) (hnt4 : nt ≤ 4) (cp lv : Nat → Nat) (hV : VT (ν 1) nt cp lv) : XMi l yX10_isConsistent cX10_isConsistent 3 (some .boolean) 1 [.ref (B 0)] Z mds B (mE Z B) ν sz (fun r u => BP r (ν 1 2 = ν 1 4 + nI (sumN lv nt)) ∧ u = up1 ν 0 (upd (ν 0) 0 (nI 0))) := by
  refine r_met (E := (mE Z B ν)) (by decide +kernel) (Nat.le_of_ble_eq_true rfl) ?_
  intro p e s m below meth c ls S hr hlk hnm hsz hW hl
  have hxe := S.1
  have hcd := S.2.1
  subst hsz
  have hl : lv_has ls 3 [(0, .ref (B 0))] := hl
  refine lv_aload_n hxe hcd dX10_isConsistent_0 rfl (lv_at hl 0 rfl) ?_
  refine lv_iconst (v := (nI 0)) hxe hcd dX10_isConsistent_1 (by decide) ?_
  refine gp_X10_53 S hW dX10_isConsistent_2 (fun H locs hW => ?_)
  refine lv_iconst (v := (nI 0)) hxe hcd dX10_isConsistent_5 (by decide) ?_
  refine lv_istore_n (lv' := [(1, .int (nI 0)), (0, .ref (B 0))]) hxe hcd dX10_isConsistent_6 rfl hl (by decide) rfl (fun ls hl => ?_)
  refine lv_iconst (v := (nI 0)) hxe hcd dX10_isConsistent_7 (by decide) ?_
  refine lv_istore_n (lv' := [(2, .int (nI 0)), (1, .int (nI 0)), (0, .ref (B 0))]) hxe hcd dX10_isConsistent_8 rfl hl (by decide) rfl (fun ls hl => ?_)
  have loop9 : ∀ (n_ : Nat) (i : Nat), nt - i < n_ → (i ≤ nt) → ∀ (H : Heap) (locs : List Loc) (ls : Array Slot), wX Z mds B (mE Z B (up1 ν 0 (upd (ν 0) 0 (nI 0)))) (fA mds B (mE Z B ν) s.heap.size) s H locs → lv_has ls 3 [(0, .ref (B 0)), (1, .int (nI (sumN lv i))), (2, .int (nI i))] → W p l e (rmD 1 0 0) s m ([.ref (B 0)] : List Value).toArray below meth c H locs 0 0 (MQ below (va_Qi (fun r u => BP r (ν 1 2 = ν 1 4 + nI (sumN lv nt)) ∧ u = up1 ν 0 (upd (ν 0) 0 (nI 0))) (fun u t => qB Z mds B ((mE Z B) u) (fA mds B (mE Z B ν) s.heap.size) t) (fA mds B (mE Z B ν) s.heap.size)) ([.ref (B 0)] : List Value).toArray s 0 0 (fA mds B (mE Z B ν) s.heap.size)) (F0 m 9 ls []) := by
    intro n_
    induction n_ with
    | zero => intro i hm; exact absurd hm (Nat.not_lt_zero _)
    | succ n_ ih9 =>
      intro i hm hi H locs ls hW hl
      refine lv_iload_n hxe hcd dX10_isConsistent_9 rfl (lv_at hl 2 rfl) ?_
      refine lv_aload_n hxe hcd dX10_isConsistent_10 rfl (lv_at hl 0 rfl) ?_
      refine gf_X10_16 S hW dX10_isConsistent_11 ?_
      refine lv_iconst (v := (nI 1)) hxe hcd dX10_isConsistent_14 (by decide) ?_
      refine gm_ald S hW (i := 1) (k := 1) (n := 1357) (by decide) (by decide) rfl (by omega) dX10_isConsistent_15 ?_
      refine r_as (y := (nI nt)) (hnt) ?_
      refine n_ge S (a := i) (b := nt) (by omega) (by omega) dX10_isConsistent_16 (tgt := 38) (by decide) (fun c16 => ?_) (fun c16 => ?_)
      · refine lv_aload_n hxe hcd dX10_isConsistent_38 rfl (lv_at hl 0 rfl) ?_
        refine gf_X10_16 S hW dX10_isConsistent_39 ?_
        refine lv_iconst (v := (nI 2)) hxe hcd dX10_isConsistent_42 (by decide) ?_
        refine gm_ald S hW (i := 1) (k := 2) (n := 1357) (by decide) (by decide) rfl (by omega) dX10_isConsistent_43 ?_
        refine lv_aload_n hxe hcd dX10_isConsistent_44 rfl (lv_at hl 0 rfl) ?_
        refine gf_X10_16 S hW dX10_isConsistent_45 ?_
        refine lv_iconst (v := (nI 4)) hxe hcd dX10_isConsistent_48 (by decide) ?_
        refine gm_ald S hW (i := 1) (k := 4) (n := 1357) (by decide) (by decide) rfl (by omega) dX10_isConsistent_49 ?_
        refine lv_iload_n hxe hcd dX10_isConsistent_50 rfl (lv_at hl 1 rfl) ?_
        refine lv_iadd hxe hcd dX10_isConsistent_51 ?_
        refine lv_icmp_ne (tgt := 59) hxe hcd dX10_isConsistent_52 (by decide) (fun c52 => ?_) (fun c52 => ?_)
        · refine lv_iconst (v := (nI 0)) hxe hcd dX10_isConsistent_59 (by decide) ?_
          refine r_zret S hr hlk (F := (mE Z B)) (u := (up1 ν 0 (upd (ν 0) 0 (nI 0)))) hW (by decide +kernel) ?_ dX10_isConsistent_60
          rw [show i = nt by omega] at c52
          exact ⟨BP_f c52, rfl⟩
        · refine lv_iconst (v := (nI 1)) hxe hcd dX10_isConsistent_55 (by decide) ?_
          refine lv_goto (tgt := 60) hxe hcd dX10_isConsistent_56 (by decide) ?_
          refine r_zret S hr hlk (F := (mE Z B)) (u := (up1 ν 0 (upd (ν 0) 0 (nI 0)))) hW (by decide +kernel) ?_ dX10_isConsistent_60
          rw [show i = nt by omega] at c52
          exact ⟨BP_t c52, rfl⟩
      · refine lv_iload_n hxe hcd dX10_isConsistent_19 rfl (lv_at hl 1 rfl) ?_
        refine lv_aload_n hxe hcd dX10_isConsistent_20 rfl (lv_at hl 0 rfl) ?_
        refine gf_X10_16 S hW dX10_isConsistent_21 ?_
        refine lv_iload_n hxe hcd dX10_isConsistent_24 rfl (lv_at hl 2 rfl) ?_
        refine lv_iconst (v := (nI 2)) hxe hcd dX10_isConsistent_25 (by decide) ?_
        refine r_calli0 (r_runS hZ S hW (As := [.int (nI i), .int (nI 2)]) (rest := [.ref (B 1), .int (nI (sumN lv i))]) (t_X10_of l hZ mds B (mE Z B (up1 ν 0 (upd (ν 0) 0 (nI 0)))) H.size (t := i) (w := 2)) k_X10_144 (hl.1) rfl rfl (Nat.le_of_ble_eq_true rfl) ⟨Nat.le_of_ble_eq_true rfl, Nat.le_of_ble_eq_true rfl⟩ ⟨Nat.le_of_ble_eq_true rfl, Nat.le_of_ble_eq_true rfl⟩ dX10_isConsistent_26) hW (fun r26 H locs hp26 hW => ?_)
        have hp26 := hp26.symm
        subst hp26
        refine gm_ald S hW (i := 1) (k := (29 + 12 * i + 2)) (n := 1357) (by decide) (by decide) rfl (by omega) dX10_isConsistent_29 ?_
        refine r_as (y := (nI (lv i))) ((hV i (by omega)).2.1) ?_
        refine n_iadd S (a := (sumN lv i)) (b := (lv i)) dX10_isConsistent_30 ?_
        refine lv_istore_n (lv' := [(1, .int (nI ((sumN lv i) + (lv i)))), (0, .ref (B 0)), (2, .int (nI i))]) hxe hcd dX10_isConsistent_31 rfl hl (by decide) rfl (fun ls hl => ?_)
        refine lv_iinc (v := (nI (i + 1))) (lv' := [(2, .int (nI (i + 1))), (1, .int (nI ((sumN lv i) + (lv i)))), (0, .ref (B 0))]) hxe hcd dX10_isConsistent_32 hl (k := 2) rfl (nI_add i 1) (by decide) rfl (fun ls hl => ?_)
        refine lv_goto (tgt := 9) hxe hcd dX10_isConsistent_35 (by decide) ?_
        have hl : lv_has ls 3 [(2, .int (nI (i + 1))), (1, .int (nI (sumN lv (i + 1)))), (0, .ref (B 0))] := by
          rw [sumN]
          exact lv_sub hl [0, 1, 2] rfl
        exact ih9 (i + 1) (by omega) (by omega) _ _ _ hW (lv_sub hl [2, 1, 0] rfl)
  exact loop9 (nt + 1) 0 (Nat.lt_succ_self _) (Nat.zero_le _) _ _ _ hW (lv_sub hl [2, 1, 0] rfl)
set_option maxHeartbeats 4000000 in
set_option maxRecDepth 100000 in
theorem t_X10_undo (l : Launch) {Z : ZT} (hZ : zOK Z) (B : Nat → Nat) (ν : MM) (sz : Nat) {ch : Nat} (hch : ν 0 1 = nI ch) (hch8 : ch ≤ 8) : XMi l yX10_undo cX10_undo 2 (some .int) 0 [.ref (B 0)] Z mds B (mE Z B) ν sz (fun r u => (ch = 0 ∧ r = nI 0 ∧ u = up1 ν 0 (upd (ν 0) 0 (nI 1))) ∨ (0 < ch ∧ r = nI (ch - 1) ∧ u = up1 (up1 ν 0 (upd (upd (ν 0) 0 (nI 0)) 1 (nI (ch - 1)))) 1 (cpR 1357 (fun k => ν 5 ((ch - 1) * 1357 + k)) (ν 1)))) := by
  refine r_met (E := (mE Z B ν)) (by decide +kernel) (Nat.le_of_ble_eq_true rfl) ?_
  intro p e s m below meth c ls S hr hlk hnm hsz hW hl
  have hxe := S.1
  have hcd := S.2.1
  subst hsz
  have hl : lv_has ls 2 [(0, .ref (B 0))] := hl
  refine lv_aload_n hxe hcd dX10_undo_0 rfl (lv_at hl 0 rfl) ?_
  refine lv_aload_n hxe hcd dX10_undo_1 rfl (lv_at hl 0 rfl) ?_
  refine gf_X10_60 S hW dX10_undo_2 ?_
  refine r_as (y := (nI ch)) (hch) ?_
  refine n_ifne S (a := ch) (by omega) dX10_undo_5 (tgt := 12) (by decide) (fun c5 => ?_) (fun c5 => ?_)
  · refine lv_iconst (v := (nI 0)) hxe hcd dX10_undo_12 (by decide) ?_
    refine gp_X10_53 S hW dX10_undo_13 (fun H locs hW => ?_)
    refine lv_aload_n hxe hcd dX10_undo_16 rfl (lv_at hl 0 rfl) ?_
    refine gf_X10_53 S hW dX10_undo_17 ?_
    refine r_as (y := (nI 0)) (by rw [up1_s, upd_s]) ?_
    refine lv_if_eq (tgt := 25) hxe hcd dX10_undo_20 (by decide) (fun _ => ?_) (fun h => absurd (by decide) h)
    refine lv_aload_n hxe hcd dX10_undo_25 rfl (lv_at hl 0 rfl) ?_
    refine lv_dup hxe hcd dX10_undo_26 rfl ?_
    refine gf_X10_60 S hW dX10_undo_27 ?_
    refine r_as (y := (nI ch)) (by rw [up1_s, upd_o (by decide), hch]) ?_
    refine lv_iconst (v := (nI 1)) hxe hcd dX10_undo_30 (by decide) ?_
    refine n_isub S (a := ch) (b := 1) (by omega) dX10_undo_31 ?_
    refine gp_X10_60 S hW dX10_undo_32 (fun H locs hW => ?_)
    refine lv_iconst (v := (nI 0)) hxe hcd dX10_undo_35 (by decide) ?_
    refine lv_istore_n (lv' := [(1, .int (nI 0)), (0, .ref (B 0))]) hxe hcd dX10_undo_36 rfl hl (by decide) rfl (fun ls hl => ?_)
    have loop37 : ∀ (n_ : Nat) (k : Nat), 1357 - k < n_ → (k ≤ 1357) → ∀ (H : Heap) (locs : List Loc) (ls : Array Slot), wX Z mds B (mE Z B (up1 (up1 ν 0 (upd (upd (ν 0) 0 (nI 0)) 1 (nI (ch - 1)))) 1 (cpR k (fun k => ν 5 ((ch - 1) * 1357 + k)) (ν 1)))) (fA mds B (mE Z B ν) s.heap.size) s H locs → lv_has ls 2 [(0, .ref (B 0)), (1, .int (nI k))] → W p l e (rmD 0 0 0) s m ([.ref (B 0)] : List Value).toArray below meth c H locs 0 0 (MQ below (va_Qi (fun r u => (ch = 0 ∧ r = nI 0 ∧ u = up1 ν 0 (upd (ν 0) 0 (nI 1))) ∨ (0 < ch ∧ r = nI (ch - 1) ∧ u = up1 (up1 ν 0 (upd (upd (ν 0) 0 (nI 0)) 1 (nI (ch - 1)))) 1 (cpR 1357 (fun k => ν 5 ((ch - 1) * 1357 + k)) (ν 1)))) (fun u t => qB Z mds B ((mE Z B) u) (fA mds B (mE Z B ν) s.heap.size) t) (fA mds B (mE Z B ν) s.heap.size)) ([.ref (B 0)] : List Value).toArray s 0 0 (fA mds B (mE Z B ν) s.heap.size)) (F0 m 37 ls []) := by
      intro n_
      induction n_ with
      | zero => intro k hm; exact absurd hm (Nat.not_lt_zero _)
      | succ n_ ih37 =>
        intro k hm hk H locs ls hW hl
        refine lv_iload_n hxe hcd dX10_undo_37 rfl (lv_at hl 1 rfl) ?_
        refine lv_sipush (v := (nI 1357)) hxe hcd dX10_undo_38 (by decide) ?_
        refine n_ge S (a := k) (b := 1357) (by omega) (by omega) dX10_undo_41 (tgt := 71) (by decide) (fun c41 => ?_) (fun c41 => ?_)
        · refine lv_aload_n hxe hcd dX10_undo_71 rfl (lv_at hl 0 rfl) ?_
          refine gf_X10_60 S hW dX10_undo_72 ?_
          refine r_as (y := (nI (ch - 1))) (by rw [up1_o (j := 0) (i := 1) (by decide), up1_s, upd_s]) ?_
          refine r_iret S hr hlk (F := (mE Z B)) (u := (up1 (up1 ν 0 (upd (upd (ν 0) 0 (nI 0)) 1 (nI (ch - 1)))) 1 (cpR k (fun k => ν 5 ((ch - 1) * 1357 + k)) (ν 1)))) hW ?_ dX10_undo_75
          refine Or.inr ⟨by omega, rfl, ?_⟩
          rw [show k = 1357 by omega]
        · refine lv_aload_n hxe hcd dX10_undo_44 rfl (lv_at hl 0 rfl) ?_
          refine gf_X10_16 S hW dX10_undo_45 ?_
          refine lv_iload_n hxe hcd dX10_undo_48 rfl (lv_at hl 1 rfl) ?_
          refine lv_aload_n hxe hcd dX10_undo_49 rfl (lv_at hl 0 rfl) ?_
          refine gf_X10_29 S hW dX10_undo_50 ?_
          refine lv_aload_n hxe hcd dX10_undo_53 rfl (lv_at hl 0 rfl) ?_
          refine gf_X10_60 S hW dX10_undo_54 ?_
          refine r_as (y := (nI (ch - 1))) (by rw [up1_o (j := 0) (i := 1) (by decide), up1_s, upd_s]) ?_
          refine lv_sipush (v := (nI 1357)) hxe hcd dX10_undo_57 (by decide) ?_
          refine n_imul S (a := (ch - 1)) (b := 1357) dX10_undo_60 ?_
          refine lv_iload_n hxe hcd dX10_undo_61 rfl (lv_at hl 1 rfl) ?_
          refine n_iadd S (a := ((ch - 1) * 1357)) (b := k) dX10_undo_62 ?_
          refine gm_ald S hW (i := 5) (k := (((ch - 1) * 1357) + k)) (n := 10856) (by decide) (by decide) rfl (by omega) dX10_undo_63 ?_
          refine gm_ast S hW (i := 1) (k := k) (n := 1357) (by decide) (by decide) rfl (by omega) dX10_undo_64 (fun H locs hW => ?_)
          refine lv_iinc (v := (nI (k + 1))) (lv' := [(1, .int (nI (k + 1))), (0, .ref (B 0))]) hxe hcd dX10_undo_65 hl (k := 1) rfl (nI_add k 1) (by decide) rfl (fun ls hl => ?_)
          refine lv_goto (tgt := 37) hxe hcd dX10_undo_68 (by decide) ?_
          exact ih37 (k + 1) (by omega) (by omega) _ _ _ (by rw [up1_s, up1_2] at hW; rw [← cpR_step (fun k => ν 5 ((ch - 1) * 1357 + k))]; exact hW) (lv_sub hl [1, 0] rfl)
    exact loop37 (1357 + 1) 0 (Nat.lt_succ_self _) (Nat.zero_le _) _ _ _ (by rw [cpR_0, up1_p (i := 1) (f := ν 1) (by rfl)]; rw [up1_s, up1_2] at hW; exact hW) (lv_sub hl [1, 0] rfl)
  · refine lv_iconst (v := (nI 1)) hxe hcd dX10_undo_8 (by decide) ?_
    refine lv_goto (tgt := 13) hxe hcd dX10_undo_9 (by decide) ?_
    refine gp_X10_53 S hW dX10_undo_13 (fun H locs hW => ?_)
    refine lv_aload_n hxe hcd dX10_undo_16 rfl (lv_at hl 0 rfl) ?_
    refine gf_X10_53 S hW dX10_undo_17 ?_
    refine r_as (y := (nI 1)) (by rw [up1_s, upd_s]) ?_
    refine lv_if_eq (tgt := 25) hxe hcd dX10_undo_20 (by decide) (fun h => absurd h (by decide)) (fun _ => ?_)
    refine lv_iconst (v := (nI 0)) hxe hcd dX10_undo_23 (by decide) ?_
    refine r_iret S hr hlk (F := (mE Z B)) (u := (up1 ν 0 (upd (ν 0) 0 (nI 1)))) hW ?_ dX10_undo_24
    exact Or.inl ⟨by omega, rfl, rfl⟩
set_option maxHeartbeats 4000000 in
set_option maxRecDepth 100000 in
theorem t_X10_save (l : Launch) {Z : ZT} (hZ : zOK Z) (B : Nat → Nat) (ν : MM) (sz : Nat)  : XMi l yX10_save cX10_save 1 (some .int) 1 [.ref (B 0)] Z mds B (mE Z B) ν sz (fun r u => r = ν 1 0 ∧ u = up1 (up1 ν 0 (upd (upd (ν 0) 0 (nI 0)) 4 (nI 1))) 3 (ν 1)) := by
  refine r_met (E := (mE Z B ν)) (by decide +kernel) (Nat.le_of_ble_eq_true rfl) ?_
  intro p e s m below meth c ls S hr hlk hnm hsz hW hl
  have hxe := S.1
  have hcd := S.2.1
  subst hsz
  have hl : lv_has ls 1 [(0, .ref (B 0))] := hl
  refine lv_aload_n hxe hcd dX10_save_0 rfl (lv_at hl 0 rfl) ?_
  refine lv_iconst (v := (nI 0)) hxe hcd dX10_save_1 (by decide) ?_
  refine gp_X10_53 S hW dX10_save_2 (fun H locs hW => ?_)
  refine lv_aload_n hxe hcd dX10_save_5 rfl (lv_at hl 0 rfl) ?_
  refine gf_X10_23 S hW dX10_save_6 ?_
  refine lv_aload_n hxe hcd dX10_save_9 rfl (lv_at hl 0 rfl) ?_
  refine gf_X10_16 S hW dX10_save_10 ?_
  refine r_callv (F := (mE Z B)) (r_runS hZ S hW (As := [.ref (B 3), .ref (B 1)]) (rest := []) (t_X10_lays l hZ B (up1 ν 0 (upd (ν 0) 0 (nI 0))) H.size (i := 3) (j := 1) (by decide) (by decide) rfl (by decide) (by decide) rfl (by decide)) k_X10_56 (hl.1) rfl rfl (Nat.le_of_ble_eq_true rfl) ⟨Nat.le_of_ble_eq_true rfl, Nat.le_of_ble_eq_true rfl⟩ ⟨Nat.le_of_ble_eq_true rfl, Nat.le_of_ble_eq_true rfl⟩ dX10_save_13) hW (fun u13 H locs hp13 hW => ?_)
  have hp13 := hp13.symm
  subst hp13
  refine lv_aload_n hxe hcd dX10_save_16 rfl (lv_at hl 0 rfl) ?_
  refine lv_iconst (v := (nI 1)) hxe hcd dX10_save_17 (by decide) ?_
  refine gp_X10_228 S hW (by decide +kernel) (by decide +kernel) dX10_save_18 (fun H locs hW => ?_)
  refine lv_aload_n hxe hcd dX10_save_21 rfl (lv_at hl 0 rfl) ?_
  refine gf_X10_16 S hW dX10_save_22 ?_
  refine lv_iconst (v := (nI 0)) hxe hcd dX10_save_25 (by decide) ?_
  refine gm_ald S hW (i := 1) (k := 0) (n := 1357) (by decide) (by decide) rfl (by omega) dX10_save_26 ?_
  refine r_iret S hr hlk (F := (mE Z B)) (u := (up1 (up1 (up1 ν 0 (upd (ν 0) 0 (nI 0))) 3 ((up1 ν 0 (upd (ν 0) 0 (nI 0))) 1)) 0 (upd ((up1 (up1 ν 0 (upd (ν 0) 0 (nI 0))) 3 ((up1 ν 0 (upd (ν 0) 0 (nI 0))) 1)) 0) 4 (nI 1)))) hW ?_ dX10_save_27
  refine ⟨rfl, ?_⟩
  rw [up1_o (j := 0) (i := 3) (by decide), up1_s, up1_c (i := 3) (j := 0) (by decide), up1_2]
  rfl
set_option maxHeartbeats 4000000 in
set_option maxRecDepth 100000 in
theorem t_X10_restore (l : Launch) {Z : ZT} (hZ : zOK Z) (B : Nat → Nat) (ν : MM) (sz : Nat) {sv : Nat} (hsv : ν 0 4 = nI sv) (hsv1 : sv ≤ 1) : XMi l yX10_restore cX10_restore 1 (some .int) 1 [.ref (B 0)] Z mds B (mE Z B) ν sz (fun r u => (sv = 0 ∧ r = nI 0 ∧ u = up1 ν 0 (upd (ν 0) 0 (nI 1))) ∨ (sv = 1 ∧ r = ν 3 0 ∧ u = up1 (up1 ν 0 (upd (upd (ν 0) 0 (nI 0)) 1 (nI 0))) 1 (ν 3))) := by
  refine r_met (E := (mE Z B ν)) (by decide +kernel) (Nat.le_of_ble_eq_true rfl) ?_
  intro p e s m below meth c ls S hr hlk hnm hsz hW hl
  have hxe := S.1
  have hcd := S.2.1
  subst hsz
  have hl : lv_has ls 1 [(0, .ref (B 0))] := hl
  refine lv_aload_n hxe hcd dX10_restore_0 rfl (lv_at hl 0 rfl) ?_
  refine lv_aload_n hxe hcd dX10_restore_1 rfl (lv_at hl 0 rfl) ?_
  refine gf_X10_228 S hW dX10_restore_2 ?_
  refine r_as (y := (nI sv)) (hsv) ?_
  refine n_ifeq S (a := sv) (by omega) dX10_restore_5 (tgt := 12) (by decide) (fun c5 => ?_) (fun c5 => ?_)
  · refine lv_iconst (v := (nI 1)) hxe hcd dX10_restore_12 (by decide) ?_
    refine gp_X10_53 S hW dX10_restore_13 (fun H locs hW => ?_)
    refine lv_aload_n hxe hcd dX10_restore_16 rfl (lv_at hl 0 rfl) ?_
    refine gf_X10_53 S hW dX10_restore_17 ?_
    refine r_as (y := (nI 1)) (by rw [up1_s, upd_s]) ?_
    refine lv_if_eq (tgt := 25) hxe hcd dX10_restore_20 (by decide) (fun h => absurd h (by decide)) (fun _ => ?_)
    refine lv_iconst (v := (nI 0)) hxe hcd dX10_restore_23 (by decide) ?_
    refine r_iret S hr hlk (F := (mE Z B)) (u := (up1 ν 0 (upd (ν 0) 0 (nI 1)))) hW ?_ dX10_restore_24
    exact Or.inl ⟨by omega, rfl, rfl⟩
  · refine lv_iconst (v := (nI 0)) hxe hcd dX10_restore_8 (by decide) ?_
    refine lv_goto (tgt := 13) hxe hcd dX10_restore_9 (by decide) ?_
    refine gp_X10_53 S hW dX10_restore_13 (fun H locs hW => ?_)
    refine lv_aload_n hxe hcd dX10_restore_16 rfl (lv_at hl 0 rfl) ?_
    refine gf_X10_53 S hW dX10_restore_17 ?_
    refine r_as (y := (nI 0)) (by rw [up1_s, upd_s]) ?_
    refine lv_if_eq (tgt := 25) hxe hcd dX10_restore_20 (by decide) (fun _ => ?_) (fun h => absurd (by decide) h)
    refine lv_aload_n hxe hcd dX10_restore_25 rfl (lv_at hl 0 rfl) ?_
    refine gf_X10_16 S hW dX10_restore_26 ?_
    refine lv_aload_n hxe hcd dX10_restore_29 rfl (lv_at hl 0 rfl) ?_
    refine gf_X10_23 S hW dX10_restore_30 ?_
    refine r_callv (F := (mE Z B)) (r_runS hZ S hW (As := [.ref (B 1), .ref (B 3)]) (rest := []) (t_X10_lays l hZ B (up1 ν 0 (upd (ν 0) 0 (nI 0))) H.size (i := 1) (j := 3) (by decide) (by decide) rfl (by decide) (by decide) rfl (by decide)) k_X10_56 (hl.1) rfl rfl (Nat.le_of_ble_eq_true rfl) ⟨Nat.le_of_ble_eq_true rfl, Nat.le_of_ble_eq_true rfl⟩ ⟨Nat.le_of_ble_eq_true rfl, Nat.le_of_ble_eq_true rfl⟩ dX10_restore_33) hW (fun u33 H locs hp33 hW => ?_)
    have hp33 := hp33.symm
    subst hp33
    refine lv_aload_n hxe hcd dX10_restore_36 rfl (lv_at hl 0 rfl) ?_
    refine lv_iconst (v := (nI 0)) hxe hcd dX10_restore_37 (by decide) ?_
    refine gp_X10_60 S hW dX10_restore_38 (fun H locs hW => ?_)
    refine lv_aload_n hxe hcd dX10_restore_41 rfl (lv_at hl 0 rfl) ?_
    refine gf_X10_16 S hW dX10_restore_42 ?_
    refine lv_iconst (v := (nI 0)) hxe hcd dX10_restore_45 (by decide) ?_
    refine gm_ald S hW (i := 1) (k := 0) (n := 1357) (by decide) (by decide) rfl (by omega) dX10_restore_46 ?_
    refine r_iret S hr hlk (F := (mE Z B)) (u := (up1 (up1 (up1 ν 0 (upd (ν 0) 0 (nI 0))) 1 ((up1 ν 0 (upd (ν 0) 0 (nI 0))) 3)) 0 (upd ((up1 (up1 ν 0 (upd (ν 0) 0 (nI 0))) 1 ((up1 ν 0 (upd (ν 0) 0 (nI 0))) 3)) 0) 1 (nI 0)))) hW ?_ dX10_restore_47
    refine Or.inr ⟨by omega, rfl, ?_⟩
    rw [up1_o (j := 0) (i := 1) (by decide), up1_s, up1_c (i := 1) (j := 0) (by decide), up1_2]
    rfl
