set_option maxHeartbeats 4000000 in
set_option maxRecDepth 100000 in
theorem t_X9_isWithin (l : Launch) {Z : ZT} (hZ : zOK Z) {α : Type} (L : List α) (A : α → Nat) (E : α → va_E) (sz : Nat) (x lo hi : Int32) : XCi l yX9_isWithin cX9_isWithin 3 (some .boolean) 0 [.int x, .int lo, .int hi] Z L A E sz (fun r => BP r (lo ≤ x ∧ x ≤ hi)) := by
  refine r_met (E := E) (by decide +kernel) (Nat.le_of_ble_eq_true rfl) ?_
  intro p e s m below meth c ls S hr hlk hnm hsz hW hl
  have hxe := S.1
  have hcd := S.2.1
  subst hsz
  have hl : lv_has ls 3 [(0, .int x), (1, .int lo), (2, .int hi)] := hl
  refine lv_iload_n hxe hcd dX9_isWithin_0 rfl (lv_at hl 0 rfl) ?_
  refine lv_iload_n hxe hcd dX9_isWithin_1 rfl (lv_at hl 1 rfl) ?_
  refine lv_icmp_lt (tgt := 14) hxe hcd dX9_isWithin_2 (by decide) (fun c2 => ?_) (fun c2 => ?_)
  · refine lv_iconst (v := (nI 0)) hxe hcd dX9_isWithin_14 (by decide) ?_
    refine r_zret0 S hr hlk hW (by decide +kernel) ?_ dX9_isWithin_15
    exact BP_f (fun h => I_nlt.mpr h.1 c2)
  · refine lv_iload_n hxe hcd dX9_isWithin_5 rfl (lv_at hl 0 rfl) ?_
    refine lv_iload_n hxe hcd dX9_isWithin_6 rfl (lv_at hl 2 rfl) ?_
    refine lv_icmp_gt (tgt := 14) hxe hcd dX9_isWithin_7 (by decide) (fun c7 => ?_) (fun c7 => ?_)
    · refine lv_iconst (v := (nI 0)) hxe hcd dX9_isWithin_14 (by decide) ?_
      refine r_zret0 S hr hlk hW (by decide +kernel) ?_ dX9_isWithin_15
      exact BP_f (fun h => I_nlt.mpr h.2 c7)
    · refine lv_iconst (v := (nI 1)) hxe hcd dX9_isWithin_10 (by decide) ?_
      refine lv_goto (tgt := 15) hxe hcd dX9_isWithin_11 (by decide) ?_
      refine r_zret0 S hr hlk hW (by decide +kernel) ?_ dX9_isWithin_15
      exact BP_t ⟨I_nlt.mp c2, I_nlt.mp c7⟩
set_option maxHeartbeats 4000000 in
set_option maxRecDepth 100000 in
theorem t_X9_read (l : Launch) {Z : ZT} (hZ : zOK Z) (A : Nat × Nat → Nat) (g : Nat → Bool) (μ : CM) (sz : Nat) {b o n : Nat} (hE : aLen o = some n) (hL : (b, o) ∈ ids g) (i : Int32) : XCi l yX9_read cX9_read 2 (some .int) 0 [.ref (A (b, o)), .int i] Z (ids g) A (cE Z A g μ) sz (fun r => r = rd n (μ b o) i) := by
  refine r_met (E := (cE Z A g μ)) (by decide +kernel) (Nat.le_of_ble_eq_true rfl) ?_
  intro p e s m below meth c ls S hr hlk hnm hsz hW hl
  have hxe := S.1
  have hcd := S.2.1
  subst hsz
  have hl : lv_has ls 2 [(0, .ref (A (b, o))), (1, .int i)] := hl
  refine lv_iload_n hxe hcd dX9_read_0 rfl (lv_at hl 1 rfl) ?_
  refine lv_if_lt (tgt := 16) hxe hcd dX9_read_1 (by decide) (fun c1 => ?_) (fun c1 => ?_)
  · refine lv_iconst (v := (nI 0)) hxe hcd dX9_read_16 (by decide) ?_
    refine r_iret0 S hr hlk hW ?_ dX9_read_17
    exact rd_1 c1
  · refine lv_iload_n hxe hcd dX9_read_4 rfl (lv_at hl 1 rfl) ?_
    refine lv_aload_n hxe hcd dX9_read_5 rfl (lv_at hl 0 rfl) ?_
    refine r_alen S hW (x := (b, o)) hL (cE_arr hE) dX9_read_6 ?_
    refine lv_icmp_ge (tgt := 16) hxe hcd dX9_read_7 (by decide) (fun c7 => ?_) (fun c7 => ?_)
    · refine lv_iconst (v := (nI 0)) hxe hcd dX9_read_16 (by decide) ?_
      refine r_iret0 S hr hlk hW ?_ dX9_read_17
      exact rd_2 c7
    · refine lv_aload_n hxe hcd dX9_read_10 rfl (lv_at hl 0 rfl) ?_
      refine lv_iload_n hxe hcd dX9_read_11 rfl (lv_at hl 1 rfl) ?_
      refine r_iald S hW (x := (b, o)) hL (cE_arr hE) (vp_of c1 c7 (aLen_lt hE)) dX9_read_12 ?_
      refine lv_goto (tgt := 17) hxe hcd dX9_read_13 (by decide) ?_
      refine r_iret0 S hr hlk hW ?_ dX9_read_17
      exact rd_y c1 c7
set_option maxHeartbeats 4000000 in
set_option maxRecDepth 100000 in
theorem t_X9_write (l : Launch) {Z : ZT} (hZ : zOK Z) (A : Nat × Nat → Nat) (g : Nat → Bool) (μ : CM) (sz : Nat) {b o n : Nat} (hE : aLen o = some n) (hL : (b, o) ∈ ids g) (i v : Int32) : XMv l yX9_write cX9_write 3 0 [.ref (A (b, o)), .int i, .int v] Z (ids g) A (cE Z A g) μ sz (fun u => u = up2 μ b o (wr n (μ b o) i v)) := by
  refine r_met (E := (cE Z A g μ)) (by decide +kernel) (Nat.le_of_ble_eq_true rfl) ?_
  intro p e s m below meth c ls S hr hlk hnm hsz hW hl
  have hxe := S.1
  have hcd := S.2.1
  subst hsz
  have hl : lv_has ls 3 [(0, .ref (A (b, o))), (1, .int i), (2, .int v)] := hl
  refine lv_iload_n hxe hcd dX9_write_0 rfl (lv_at hl 1 rfl) ?_
  refine lv_if_lt (tgt := 14) hxe hcd dX9_write_1 (by decide) (fun c1 => ?_) (fun c1 => ?_)
  · refine r_vret S hr hlk (F := (cE Z A g)) (u := μ) hW ?_ dX9_write_14
    rw [← wr_1 c1, up2_id]
  · refine lv_iload_n hxe hcd dX9_write_4 rfl (lv_at hl 1 rfl) ?_
    refine lv_aload_n hxe hcd dX9_write_5 rfl (lv_at hl 0 rfl) ?_
    refine r_alen S hW (x := (b, o)) hL (cE_arr hE) dX9_write_6 ?_
    refine lv_icmp_ge (tgt := 14) hxe hcd dX9_write_7 (by decide) (fun c7 => ?_) (fun c7 => ?_)
    · refine r_vret S hr hlk (F := (cE Z A g)) (u := μ) hW ?_ dX9_write_14
      rw [← wr_2 c7, up2_id]
    · refine lv_aload_n hxe hcd dX9_write_10 rfl (lv_at hl 0 rfl) ?_
      refine lv_iload_n hxe hcd dX9_write_11 rfl (lv_at hl 1 rfl) ?_
      refine lv_iload_n hxe hcd dX9_write_12 rfl (lv_at hl 2 rfl) ?_
      refine r_iast S hW (x := (b, o)) hL (cE_arr hE) (vp_of c1 c7 (aLen_lt hE)) (E' := cE Z A g (up2 μ b o (upd (μ b o) i.toNatClampNeg v))) (cE_upA hE) (fun y hy => cE_up y hy) dX9_write_13 (fun H locs hW => ?_)
      refine r_vret S hr hlk (F := (cE Z A g)) (u := (up2 μ b o (upd (μ b o) i.toNatClampNeg v))) hW ?_ dX9_write_14
      rw [wr_y c1 c7]
set_option maxHeartbeats 4000000 in
set_option maxRecDepth 100000 in
theorem t_X9_signOf (l : Launch) {Z : ZT} (hZ : zOK Z) {α : Type} (L : List α) (A : α → Nat) (E : α → va_E) (sz : Nat) (x : Int32) : XCi l yX9_signOf cX9_signOf 1 (some .int) 0 [.int x] Z L A E sz (fun r => r = if x = 0 then 0 else if 0 < x then 1 else -1) := by
  refine r_met (E := E) (by decide +kernel) (Nat.le_of_ble_eq_true rfl) ?_
  intro p e s m below meth c ls S hr hlk hnm hsz hW hl
  have hxe := S.1
  have hcd := S.2.1
  subst hsz
  have hl : lv_has ls 1 [(0, .int x)] := hl
  refine lv_iload_n hxe hcd dX9_signOf_0 rfl (lv_at hl 0 rfl) ?_
  refine lv_if_ne (tgt := 6) hxe hcd dX9_signOf_1 (by decide) (fun c1 => ?_) (fun c1 => ?_)
  · refine lv_iload_n hxe hcd dX9_signOf_6 rfl (lv_at hl 0 rfl) ?_
    refine lv_if_le (tgt := 14) hxe hcd dX9_signOf_7 (by decide) (fun c7 => ?_) (fun c7 => ?_)
    · refine lv_iconst (v := (-1)) hxe hcd dX9_signOf_14 (by decide) ?_
      refine r_iret0 S hr hlk hW ?_ dX9_signOf_15
      first | (simp [*]; done) | (simp [*]; rfl) | (simp_all; rfl)
    · refine lv_iconst (v := (nI 1)) hxe hcd dX9_signOf_10 (by decide) ?_
      refine lv_goto (tgt := 15) hxe hcd dX9_signOf_11 (by decide) ?_
      refine r_iret0 S hr hlk hW ?_ dX9_signOf_15
      first | (simp [*]; done) | (simp [*]; rfl) | (simp_all; rfl)
  · refine lv_iconst (v := (nI 0)) hxe hcd dX9_signOf_4 (by decide) ?_
    refine r_iret0 S hr hlk hW ?_ dX9_signOf_5
    first | (simp [*]; done) | (simp [*]; rfl) | (simp_all; rfl)
set_option maxHeartbeats 4000000 in
set_option maxRecDepth 100000 in
theorem t_X0_kindAt (l : Launch) {Z : ZT} (hZ : zOK Z) (A : Nat × Nat → Nat) (g : Nat → Bool) (μ : CM) (sz : Nat) {b : Nat} (hb : sB g b) (i : Int32) : XCi l yX0_kindAt cX0_kindAt 2 (some .int) 1 [.ref (A (b, 1)), .int i] Z (ids g) A (cE Z A g μ) sz (fun r => r = rd 8 (μ b 2) i) := by
  refine r_met (E := (cE Z A g μ)) (by decide +kernel) (Nat.le_of_ble_eq_true rfl) ?_
  intro p e s m below meth c ls S hr hlk hnm hsz hW hl
  have hxe := S.1
  have hcd := S.2.1
  subst hsz
  have hl : lv_has ls 2 [(0, .ref (A (b, 1))), (1, .int i)] := hl
  refine lv_aload_n hxe hcd dX0_kindAt_0 rfl (lv_at hl 0 rfl) ?_
  refine gf_X0_9 S hW hb dX0_kindAt_1 ?_
  refine lv_iload_n hxe hcd dX0_kindAt_4 rfl (lv_at hl 1 rfl) ?_
  refine r_calli0 (r_runSN hZ S hW (As := [.ref (A (b, 2)), .int i]) (rest := []) (t_X9_read l hZ A g μ s.heap.size (b := b) (o := 2) (n := 8) rfl (in_s hb (by decide)) i) k_X0_26 (hl.1) rfl rfl (Nat.le_of_ble_eq_true rfl) ⟨Nat.le_of_ble_eq_true rfl, Nat.le_of_ble_eq_true rfl⟩ ⟨Nat.le_of_ble_eq_true rfl, Nat.le_of_ble_eq_true rfl⟩ dX0_kindAt_5) hW (fun r5 H locs hp5 hW => ?_)
  have hp5 := hp5.symm
  subst hp5
  refine r_iret0 S hr hlk hW ?_ dX0_kindAt_8
  rfl
set_option maxHeartbeats 4000000 in
set_option maxRecDepth 100000 in
theorem t_X0_parameterAt (l : Launch) {Z : ZT} (hZ : zOK Z) (A : Nat × Nat → Nat) (g : Nat → Bool) (μ : CM) (sz : Nat) {b : Nat} (hb : sB g b) (i : Int32) : XCi l yX0_parameterAt cX0_parameterAt 2 (some .int) 1 [.ref (A (b, 1)), .int i] Z (ids g) A (cE Z A g μ) sz (fun r => r = rd 8 (μ b 3) i) := by
  refine r_met (E := (cE Z A g μ)) (by decide +kernel) (Nat.le_of_ble_eq_true rfl) ?_
  intro p e s m below meth c ls S hr hlk hnm hsz hW hl
  have hxe := S.1
  have hcd := S.2.1
  subst hsz
  have hl : lv_has ls 2 [(0, .ref (A (b, 1))), (1, .int i)] := hl
  refine lv_aload_n hxe hcd dX0_parameterAt_0 rfl (lv_at hl 0 rfl) ?_
  refine gf_X0_15 S hW hb dX0_parameterAt_1 ?_
  refine lv_iload_n hxe hcd dX0_parameterAt_4 rfl (lv_at hl 1 rfl) ?_
  refine r_calli0 (r_runSN hZ S hW (As := [.ref (A (b, 3)), .int i]) (rest := []) (t_X9_read l hZ A g μ s.heap.size (b := b) (o := 3) (n := 8) rfl (in_s hb (by decide)) i) k_X0_26 (hl.1) rfl rfl (Nat.le_of_ble_eq_true rfl) ⟨Nat.le_of_ble_eq_true rfl, Nat.le_of_ble_eq_true rfl⟩ ⟨Nat.le_of_ble_eq_true rfl, Nat.le_of_ble_eq_true rfl⟩ dX0_parameterAt_5) hW (fun r5 H locs hp5 hW => ?_)
  have hp5 := hp5.symm
  subst hp5
  refine r_iret0 S hr hlk hW ?_ dX0_parameterAt_8
  rfl
set_option maxHeartbeats 4000000 in
set_option maxRecDepth 100000 in
theorem t_X5_samplesOf (l : Launch) {Z : ZT} (hZ : zOK Z) (A : Nat × Nat → Nat) (g : Nat → Bool) (μ : CM) (sz : Nat) {b : Nat} (hb : sB g b) (i : Int32) : XCi l yX5_samplesOf cX5_samplesOf 2 (some .int) 1 [.ref (A (b, 4)), .int i] Z (ids g) A (cE Z A g μ) sz (fun r => r = rd 4 (μ b 7) i) := by
  refine r_met (E := (cE Z A g μ)) (by decide +kernel) (Nat.le_of_ble_eq_true rfl) ?_
  intro p e s m below meth c ls S hr hlk hnm hsz hW hl
  have hxe := S.1
  have hcd := S.2.1
  subst hsz
  have hl : lv_has ls 2 [(0, .ref (A (b, 4))), (1, .int i)] := hl
  refine lv_aload_n hxe hcd dX5_samplesOf_0 rfl (lv_at hl 0 rfl) ?_
  refine gf_X5_18 S hW hb dX5_samplesOf_1 ?_
  refine lv_iload_n hxe hcd dX5_samplesOf_4 rfl (lv_at hl 1 rfl) ?_
  refine r_calli0 (r_runSN hZ S hW (As := [.ref (A (b, 7)), .int i]) (rest := []) (t_X9_read l hZ A g μ s.heap.size (b := b) (o := 7) (n := 4) rfl (in_s hb (by decide)) i) k_X5_28 (hl.1) rfl rfl (Nat.le_of_ble_eq_true rfl) ⟨Nat.le_of_ble_eq_true rfl, Nat.le_of_ble_eq_true rfl⟩ ⟨Nat.le_of_ble_eq_true rfl, Nat.le_of_ble_eq_true rfl⟩ dX5_samplesOf_5) hW (fun r5 H locs hp5 hW => ?_)
  have hp5 := hp5.symm
  subst hp5
  refine r_iret0 S hr hlk hW ?_ dX5_samplesOf_8
  rfl
set_option maxHeartbeats 4000000 in
set_option maxRecDepth 100000 in
theorem t_X5_notesOf (l : Launch) {Z : ZT} (hZ : zOK Z) (A : Nat × Nat → Nat) (g : Nat → Bool) (μ : CM) (sz : Nat) {b : Nat} (hb : sB g b) (i : Int32) : XCi l yX5_notesOf cX5_notesOf 2 (some .int) 1 [.ref (A (b, 4)), .int i] Z (ids g) A (cE Z A g μ) sz (fun r => r = rd 4 (μ b 8) i) := by
  refine r_met (E := (cE Z A g μ)) (by decide +kernel) (Nat.le_of_ble_eq_true rfl) ?_
  intro p e s m below meth c ls S hr hlk hnm hsz hW hl
  have hxe := S.1
  have hcd := S.2.1
  subst hsz
  have hl : lv_has ls 2 [(0, .ref (A (b, 4))), (1, .int i)] := hl
  refine lv_aload_n hxe hcd dX5_notesOf_0 rfl (lv_at hl 0 rfl) ?_
  refine gf_X5_21 S hW hb dX5_notesOf_1 ?_
  refine lv_iload_n hxe hcd dX5_notesOf_4 rfl (lv_at hl 1 rfl) ?_
  refine r_calli0 (r_runSN hZ S hW (As := [.ref (A (b, 8)), .int i]) (rest := []) (t_X9_read l hZ A g μ s.heap.size (b := b) (o := 8) (n := 4) rfl (in_s hb (by decide)) i) k_X5_28 (hl.1) rfl rfl (Nat.le_of_ble_eq_true rfl) ⟨Nat.le_of_ble_eq_true rfl, Nat.le_of_ble_eq_true rfl⟩ ⟨Nat.le_of_ble_eq_true rfl, Nat.le_of_ble_eq_true rfl⟩ dX5_notesOf_5) hW (fun r5 H locs hp5 hW => ?_)
  have hp5 := hp5.symm
  subst hp5
  refine r_iret0 S hr hlk hW ?_ dX5_notesOf_8
  rfl
set_option maxHeartbeats 4000000 in
set_option maxRecDepth 100000 in
theorem t_X7_capacityOf (l : Launch) {Z : ZT} (hZ : zOK Z) (A : Nat × Nat → Nat) (g : Nat → Bool) (μ : CM) (sz : Nat) {b : Nat} (hb : tB g b) (i : Int32) : XCi l yX7_capacityOf cX7_capacityOf 2 (some .int) 1 [.ref (A (b, 9)), .int i] Z (ids g) A (cE Z A g μ) sz (fun r => r = rd 4 (μ b 10) i) := by
  refine r_met (E := (cE Z A g μ)) (by decide +kernel) (Nat.le_of_ble_eq_true rfl) ?_
  intro p e s m below meth c ls S hr hlk hnm hsz hW hl
  have hxe := S.1
  have hcd := S.2.1
  subst hsz
  have hl : lv_has ls 2 [(0, .ref (A (b, 9))), (1, .int i)] := hl
  refine lv_aload_n hxe hcd dX7_capacityOf_0 rfl (lv_at hl 0 rfl) ?_
  refine gf_X7_9 S hW hb dX7_capacityOf_1 ?_
  refine lv_iload_n hxe hcd dX7_capacityOf_4 rfl (lv_at hl 1 rfl) ?_
  refine r_calli0 (r_runSN hZ S hW (As := [.ref (A (b, 10)), .int i]) (rest := []) (t_X9_read l hZ A g μ s.heap.size (b := b) (o := 10) (n := 4) rfl (in_t hb (by decide) (by decide)) i) k_X7_41 (hl.1) rfl rfl (Nat.le_of_ble_eq_true rfl) ⟨Nat.le_of_ble_eq_true rfl, Nat.le_of_ble_eq_true rfl⟩ ⟨Nat.le_of_ble_eq_true rfl, Nat.le_of_ble_eq_true rfl⟩ dX7_capacityOf_5) hW (fun r5 H locs hp5 hW => ?_)
  have hp5 := hp5.symm
  subst hp5
  refine r_iret0 S hr hlk hW ?_ dX7_capacityOf_8
  rfl
set_option maxHeartbeats 4000000 in
set_option maxRecDepth 100000 in
theorem t_X7_tuningOf (l : Launch) {Z : ZT} (hZ : zOK Z) (A : Nat × Nat → Nat) (g : Nat → Bool) (μ : CM) (sz : Nat) {b : Nat} (hb : tB g b) (i : Int32) : XCi l yX7_tuningOf cX7_tuningOf 2 (some .int) 1 [.ref (A (b, 9)), .int i] Z (ids g) A (cE Z A g μ) sz (fun r => r = rd 4 (μ b 11) i) := by
  refine r_met (E := (cE Z A g μ)) (by decide +kernel) (Nat.le_of_ble_eq_true rfl) ?_
  intro p e s m below meth c ls S hr hlk hnm hsz hW hl
  have hxe := S.1
  have hcd := S.2.1
  subst hsz
  have hl : lv_has ls 2 [(0, .ref (A (b, 9))), (1, .int i)] := hl
  refine lv_aload_n hxe hcd dX7_tuningOf_0 rfl (lv_at hl 0 rfl) ?_
  refine gf_X7_15 S hW hb dX7_tuningOf_1 ?_
  refine lv_iload_n hxe hcd dX7_tuningOf_4 rfl (lv_at hl 1 rfl) ?_
  refine r_calli0 (r_runSN hZ S hW (As := [.ref (A (b, 11)), .int i]) (rest := []) (t_X9_read l hZ A g μ s.heap.size (b := b) (o := 11) (n := 4) rfl (in_t hb (by decide) (by decide)) i) k_X7_41 (hl.1) rfl rfl (Nat.le_of_ble_eq_true rfl) ⟨Nat.le_of_ble_eq_true rfl, Nat.le_of_ble_eq_true rfl⟩ ⟨Nat.le_of_ble_eq_true rfl, Nat.le_of_ble_eq_true rfl⟩ dX7_tuningOf_5) hW (fun r5 H locs hp5 hW => ?_)
  have hp5 := hp5.symm
  subst hp5
  refine r_iret0 S hr hlk hW ?_ dX7_tuningOf_8
  rfl
set_option maxHeartbeats 4000000 in
set_option maxRecDepth 100000 in
theorem t_X7_levelOf (l : Launch) {Z : ZT} (hZ : zOK Z) (A : Nat × Nat → Nat) (g : Nat → Bool) (μ : CM) (sz : Nat) {b : Nat} (hb : tB g b) (i : Int32) : XCi l yX7_levelOf cX7_levelOf 2 (some .int) 1 [.ref (A (b, 9)), .int i] Z (ids g) A (cE Z A g μ) sz (fun r => r = rd 4 (μ b 12) i) := by
  refine r_met (E := (cE Z A g μ)) (by decide +kernel) (Nat.le_of_ble_eq_true rfl) ?_
  intro p e s m below meth c ls S hr hlk hnm hsz hW hl
  have hxe := S.1
  have hcd := S.2.1
  subst hsz
  have hl : lv_has ls 2 [(0, .ref (A (b, 9))), (1, .int i)] := hl
  refine lv_aload_n hxe hcd dX7_levelOf_0 rfl (lv_at hl 0 rfl) ?_
  refine gf_X7_18 S hW hb dX7_levelOf_1 ?_
  refine lv_iload_n hxe hcd dX7_levelOf_4 rfl (lv_at hl 1 rfl) ?_
  refine r_calli0 (r_runSN hZ S hW (As := [.ref (A (b, 12)), .int i]) (rest := []) (t_X9_read l hZ A g μ s.heap.size (b := b) (o := 12) (n := 4) rfl (in_t hb (by decide) (by decide)) i) k_X7_41 (hl.1) rfl rfl (Nat.le_of_ble_eq_true rfl) ⟨Nat.le_of_ble_eq_true rfl, Nat.le_of_ble_eq_true rfl⟩ ⟨Nat.le_of_ble_eq_true rfl, Nat.le_of_ble_eq_true rfl⟩ dX7_levelOf_5) hW (fun r5 H locs hp5 hW => ?_)
  have hp5 := hp5.symm
  subst hp5
  refine r_iret0 S hr hlk hW ?_ dX7_levelOf_8
  rfl
