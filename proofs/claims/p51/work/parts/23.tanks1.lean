set_option maxHeartbeats 4000000 in
set_option maxRecDepth 100000 in
theorem t_X7_frameAt (l : Launch) {Z : ZT} (hZ : zOK Z) (A : Nat × Nat → Nat) (g : Nat → Bool) (μ : CM) (sz : Nat) {b : Nat} (hb : tB g b) {q i : Nat} (hq : q < 4) (hi : i < 9) : XCi l yX7_frameAt cX7_frameAt 3 (some .int) 1 [.ref (A (b, 9)), .int (nI q), .int (nI i)] Z (ids g) A (cE Z A g μ) sz (fun r => r = μ b 13 (q * 9 + i)) := by
  refine r_met (E := (cE Z A g μ)) (by decide +kernel) (Nat.le_of_ble_eq_true rfl) ?_
  intro p e s m below meth c ls S hr hlk hnm hsz hW hl
  have hxe := S.1
  have hcd := S.2.1
  subst hsz
  have hl : lv_has ls 3 [(0, .ref (A (b, 9))), (1, .int (nI q)), (2, .int (nI i))] := hl
  refine lv_aload_n hxe hcd dX7_frameAt_0 rfl (lv_at hl 0 rfl) ?_
  refine gf_X7_21 S hW hb dX7_frameAt_1 ?_
  refine lv_iload_n hxe hcd dX7_frameAt_4 rfl (lv_at hl 1 rfl) ?_
  refine lv_bipush (v := (nI 9)) hxe hcd dX7_frameAt_5 (by decide) ?_
  refine n_imul S (a := q) (b := 9) dX7_frameAt_7 ?_
  refine lv_iload_n hxe hcd dX7_frameAt_8 rfl (lv_at hl 2 rfl) ?_
  refine n_iadd S (a := (q * 9)) (b := i) dX7_frameAt_9 ?_
  refine r_calli0 (r_runSN hZ S hW (As := [.ref (A (b, 13)), .int (nI ((q * 9) + i))]) (rest := []) (t_X9_read l hZ A g μ s.heap.size (b := b) (o := 13) (n := 36) rfl (in_t hb (by decide) (by decide)) (nI ((q * 9) + i))) k_X7_41 (hl.1) rfl rfl (Nat.le_of_ble_eq_true rfl) ⟨Nat.le_of_ble_eq_true rfl, Nat.le_of_ble_eq_true rfl⟩ ⟨Nat.le_of_ble_eq_true rfl, Nat.le_of_ble_eq_true rfl⟩ dX7_frameAt_10) hW (fun r10 H locs hp10 hW => ?_)
  have hp10 := hp10.symm
  subst hp10
  refine r_iret0 S hr hlk hW ?_ dX7_frameAt_13
  rw [rd_in (n := 36) (k := q * 9 + i) _ (by omega) (by decide)]
set_option maxHeartbeats 4000000 in
set_option maxRecDepth 100000 in
theorem t_X7_setFrame (l : Launch) {Z : ZT} (hZ : zOK Z) (A : Nat × Nat → Nat) (g : Nat → Bool) (μ : CM) (sz : Nat) {b : Nat} (hb : tB g b) {q i : Nat} (hq : q < 4) (hi : i < 9) (x : Int32) : XMv l yX7_setFrame cX7_setFrame 4 1 [.ref (A (b, 9)), .int (nI q), .int (nI i), .int x] Z (ids g) A (cE Z A g) μ sz (fun u => u = up2 μ b 13 (upd (μ b 13) (q * 9 + i) x)) := by
  refine r_met (E := (cE Z A g μ)) (by decide +kernel) (Nat.le_of_ble_eq_true rfl) ?_
  intro p e s m below meth c ls S hr hlk hnm hsz hW hl
  have hxe := S.1
  have hcd := S.2.1
  subst hsz
  have hl : lv_has ls 4 [(0, .ref (A (b, 9))), (1, .int (nI q)), (2, .int (nI i)), (3, .int x)] := hl
  refine lv_aload_n hxe hcd dX7_setFrame_0 rfl (lv_at hl 0 rfl) ?_
  refine gf_X7_21 S hW hb dX7_setFrame_1 ?_
  refine lv_iload_n hxe hcd dX7_setFrame_4 rfl (lv_at hl 1 rfl) ?_
  refine lv_bipush (v := (nI 9)) hxe hcd dX7_setFrame_5 (by decide) ?_
  refine n_imul S (a := q) (b := 9) dX7_setFrame_7 ?_
  refine lv_iload_n hxe hcd dX7_setFrame_8 rfl (lv_at hl 2 rfl) ?_
  refine n_iadd S (a := (q * 9)) (b := i) dX7_setFrame_9 ?_
  refine lv_iload_n hxe hcd dX7_setFrame_10 rfl (lv_at hl 3 rfl) ?_
  refine r_callv (F := (cE Z A g)) (r_runSN hZ S hW (As := [.ref (A (b, 13)), .int (nI ((q * 9) + i)), .int x]) (rest := []) (t_X9_write l hZ A g μ s.heap.size (b := b) (o := 13) (n := 36) rfl (in_t hb (by decide) (by decide)) (nI ((q * 9) + i)) x) k_X7_45 (hl.1) rfl rfl (Nat.le_of_ble_eq_true rfl) ⟨Nat.le_of_ble_eq_true rfl, Nat.le_of_ble_eq_true rfl⟩ ⟨Nat.le_of_ble_eq_true rfl, Nat.le_of_ble_eq_true rfl⟩ dX7_setFrame_11) hW (fun u11 H locs hp11 hW => ?_)
  have hp11 := hp11.symm
  subst hp11
  refine r_vret S hr hlk (F := (cE Z A g)) (u := (up2 μ b 13 (wr 36 (μ b 13) (nI ((q * 9) + i)) x))) hW ?_ dX7_setFrame_14
  rw [wr_in (n := 36) (k := q * 9 + i) _ _ (by omega) (by decide)]
set_option maxHeartbeats 4000000 in
set_option maxRecDepth 100000 in
theorem t_X7_faultOfTank (l : Launch) {Z : ZT} (hZ : zOK Z) (A : Nat × Nat → Nat) (g : Nat → Bool) (μ : CM) (sz : Nat) {b : Nat} (hb : tB g b) {nt : Nat} (hc : μ b 9 4 = nI nt) (h4 : nt ≤ 4) (x : Int32) : XCi l yX7_faultOfTank cX7_faultOfTank 2 (some .int) 1 [.ref (A (b, 9)), .int x] Z (ids g) A (cE Z A g μ) sz (fun r => (r = nI 0 ∧ IX x nt) ∨ (r = nI 1 ∧ ¬ IX x nt)) := by
  refine r_met (E := (cE Z A g μ)) (by decide +kernel) (Nat.le_of_ble_eq_true rfl) ?_
  intro p e s m below meth c ls S hr hlk hnm hsz hW hl
  have hxe := S.1
  have hcd := S.2.1
  subst hsz
  have hl : lv_has ls 2 [(0, .ref (A (b, 9))), (1, .int x)] := hl
  refine lv_iload_n hxe hcd dX7_faultOfTank_0 rfl (lv_at hl 1 rfl) ?_
  refine lv_iconst (v := (nI 0)) hxe hcd dX7_faultOfTank_1 (by decide) ?_
  refine lv_aload_n hxe hcd dX7_faultOfTank_2 rfl (lv_at hl 0 rfl) ?_
  refine gf_X7_24 S hW hb dX7_faultOfTank_3 ?_
  refine r_as (y := (nI nt)) (hc) ?_
  refine lv_iconst (v := (nI 1)) hxe hcd dX7_faultOfTank_6 (by decide) ?_
  refine lv_isub hxe hcd dX7_faultOfTank_7 ?_
  refine r_calli0 (r_runSN hZ S hW (As := [.int x, .int (nI 0), .int ((nI nt) - (nI 1))]) (rest := []) (t_X9_isWithin l hZ (ids g) A (cE Z A g μ) s.heap.size x (nI 0) ((nI nt) - (nI 1))) k_X7_49 (hl.1) rfl rfl (Nat.le_of_ble_eq_true rfl) ⟨Nat.le_of_ble_eq_true rfl, Nat.le_of_ble_eq_true rfl⟩ ⟨Nat.le_of_ble_eq_true rfl, Nat.le_of_ble_eq_true rfl⟩ dX7_faultOfTank_8) hW (fun r8 H locs hp8 hW => ?_)
  rcases hp8 with ⟨hp80, hp8⟩ | ⟨hp80, hp8⟩
  · subst hp80
    refine lv_if_eq (tgt := 18) hxe hcd dX7_faultOfTank_11 (by decide) (fun h => absurd h (by decide)) (fun _ => ?_)
    refine lv_iconst (v := (nI 0)) hxe hcd dX7_faultOfTank_14 (by decide) ?_
    refine lv_goto (tgt := 19) hxe hcd dX7_faultOfTank_15 (by decide) ?_
    refine r_iret0 S hr hlk hW ?_ dX7_faultOfTank_19
    first | exact Or.inl ⟨rfl, (IX_sub (by omega)).mp hp8⟩ | exact Or.inr ⟨rfl, fun h => hp8 ((IX_sub (by omega)).mpr h)⟩
  · subst hp80
    refine lv_if_eq (tgt := 18) hxe hcd dX7_faultOfTank_11 (by decide) (fun _ => ?_) (fun h => absurd (by decide) h)
    refine lv_iconst (v := (nI 1)) hxe hcd dX7_faultOfTank_18 (by decide) ?_
    refine r_iret0 S hr hlk hW ?_ dX7_faultOfTank_19
    first | exact Or.inl ⟨rfl, (IX_sub (by omega)).mp hp8⟩ | exact Or.inr ⟨rfl, fun h => hp8 ((IX_sub (by omega)).mpr h)⟩
set_option maxHeartbeats 4000000 in
set_option maxRecDepth 100000 in
theorem t_X7_faultOfNewTank (l : Launch) {Z : ZT} (hZ : zOK Z) (A : Nat × Nat → Nat) (g : Nat → Bool) (μ : CM) (sz : Nat) {b : Nat} (hb : tB g b) {nt : Nat} (hc : μ b 9 4 = nI nt) (h4 : nt ≤ 4) (x : Int32) : XCi l yX7_faultOfNewTank cX7_faultOfNewTank 2 (some .int) 1 [.ref (A (b, 9)), .int x] Z (ids g) A (cE Z A g μ) sz (fun r => (r = nI 0 ∧ (nI 1 ≤ x ∧ x ≤ nI 9) ∧ nt < 4) ∨ (r = nI 2 ∧ ¬ (nI 1 ≤ x ∧ x ≤ nI 9)) ∨ (r = nI 3 ∧ (nI 1 ≤ x ∧ x ≤ nI 9) ∧ ¬ nt < 4)) := by
  refine r_met (E := (cE Z A g μ)) (by decide +kernel) (Nat.le_of_ble_eq_true rfl) ?_
  intro p e s m below meth c ls S hr hlk hnm hsz hW hl
  have hxe := S.1
  have hcd := S.2.1
  subst hsz
  have hl : lv_has ls 2 [(0, .ref (A (b, 9))), (1, .int x)] := hl
  refine lv_iload_n hxe hcd dX7_faultOfNewTank_0 rfl (lv_at hl 1 rfl) ?_
  refine lv_iconst (v := (nI 1)) hxe hcd dX7_faultOfNewTank_1 (by decide) ?_
  refine lv_bipush (v := (nI 9)) hxe hcd dX7_faultOfNewTank_2 (by decide) ?_
  refine r_calli0 (r_runSN hZ S hW (As := [.int x, .int (nI 1), .int (nI 9)]) (rest := []) (t_X9_isWithin l hZ (ids g) A (cE Z A g μ) s.heap.size x (nI 1) (nI 9)) k_X7_49 (hl.1) rfl rfl (Nat.le_of_ble_eq_true rfl) ⟨Nat.le_of_ble_eq_true rfl, Nat.le_of_ble_eq_true rfl⟩ ⟨Nat.le_of_ble_eq_true rfl, Nat.le_of_ble_eq_true rfl⟩ dX7_faultOfNewTank_4) hW (fun r4 H locs hp4 hW => ?_)
  rcases hp4 with ⟨hp40, hp4⟩ | ⟨hp40, hp4⟩
  · subst hp40
    refine lv_if_ne (tgt := 12) hxe hcd dX7_faultOfNewTank_7 (by decide) (fun _ => ?_) (fun h => absurd h (by decide))
    refine lv_aload_n hxe hcd dX7_faultOfNewTank_12 rfl (lv_at hl 0 rfl) ?_
    refine gf_X7_24 S hW hb dX7_faultOfNewTank_13 ?_
    refine r_as (y := (nI nt)) (hc) ?_
    refine lv_iconst (v := (nI 4)) hxe hcd dX7_faultOfNewTank_16 (by decide) ?_
    refine n_ge S (a := nt) (b := 4) (by omega) (by omega) dX7_faultOfNewTank_17 (tgt := 24) (by decide) (fun c17 => ?_) (fun c17 => ?_)
    · refine lv_iconst (v := (nI 3)) hxe hcd dX7_faultOfNewTank_24 (by decide) ?_
      refine r_iret0 S hr hlk hW ?_ dX7_faultOfNewTank_25
      first | exact Or.inl ⟨rfl, hp4, by omega⟩ | exact Or.inr (Or.inl ⟨rfl, hp4⟩) | exact Or.inr (Or.inr ⟨rfl, hp4, by omega⟩)
    · refine lv_iconst (v := (nI 0)) hxe hcd dX7_faultOfNewTank_20 (by decide) ?_
      refine lv_goto (tgt := 25) hxe hcd dX7_faultOfNewTank_21 (by decide) ?_
      refine r_iret0 S hr hlk hW ?_ dX7_faultOfNewTank_25
      first | exact Or.inl ⟨rfl, hp4, by omega⟩ | exact Or.inr (Or.inl ⟨rfl, hp4⟩) | exact Or.inr (Or.inr ⟨rfl, hp4, by omega⟩)
  · subst hp40
    refine lv_if_ne (tgt := 12) hxe hcd dX7_faultOfNewTank_7 (by decide) (fun h => absurd h (by decide)) (fun _ => ?_)
    refine lv_iconst (v := (nI 2)) hxe hcd dX7_faultOfNewTank_10 (by decide) ?_
    refine r_iret0 S hr hlk hW ?_ dX7_faultOfNewTank_11
    first | exact Or.inl ⟨rfl, hp4, by omega⟩ | exact Or.inr (Or.inl ⟨rfl, hp4⟩) | exact Or.inr (Or.inr ⟨rfl, hp4, by omega⟩)
set_option maxHeartbeats 4000000 in
set_option maxRecDepth 100000 in
theorem t_X7_faultOfNewTuning (l : Launch) {Z : ZT} (hZ : zOK Z) (A : Nat × Nat → Nat) (g : Nat → Bool) (μ : CM) (sz : Nat) {b : Nat} (hb : tB g b) {nt : Nat} (hc : μ b 9 4 = nI nt) (h4 : nt ≤ 4) (x y : Int32) : XCi l yX7_faultOfNewTuning cX7_faultOfNewTuning 3 (some .int) 2 [.ref (A (b, 9)), .int x, .int y] Z (ids g) A (cE Z A g μ) sz (fun r => (r = nI 0 ∧ IX x nt ∧ (nI 0 ≤ y ∧ y ≤ nI 9999)) ∨ (r = nI 1 ∧ ¬ IX x nt) ∨ (r = nI 2 ∧ IX x nt ∧ ¬ (nI 0 ≤ y ∧ y ≤ nI 9999))) := by
  refine r_met (E := (cE Z A g μ)) (by decide +kernel) (Nat.le_of_ble_eq_true rfl) ?_
  intro p e s m below meth c ls S hr hlk hnm hsz hW hl
  have hxe := S.1
  have hcd := S.2.1
  subst hsz
  have hl : lv_has ls 3 [(0, .ref (A (b, 9))), (1, .int x), (2, .int y)] := hl
  refine lv_aload_n hxe hcd dX7_faultOfNewTuning_0 rfl (lv_at hl 0 rfl) ?_
  refine lv_iload_n hxe hcd dX7_faultOfNewTuning_1 rfl (lv_at hl 1 rfl) ?_
  refine r_calli0 (r_runV hZ S hW (As := [.int x]) (rest := []) (t_X7_faultOfTank l hZ A g μ s.heap.size hb hc h4 x) k_X7_53 (r_recv hW (x := (b, 9)) (in_t hb (by decide) (by decide)) rfl rfl) (hl.1) rfl rfl (Nat.le_of_ble_eq_true rfl) ⟨Nat.le_of_ble_eq_true rfl, Nat.le_of_ble_eq_true rfl⟩ ⟨Nat.le_of_ble_eq_true rfl, Nat.le_of_ble_eq_true rfl⟩ dX7_faultOfNewTuning_2) hW (fun r2 H locs hp2 hW => ?_)
  rcases hp2 with ⟨rfl, hp2⟩ | ⟨rfl, hp2⟩
  · refine lv_if_eq (tgt := 10) hxe hcd dX7_faultOfNewTuning_5 (by decide) (fun _ => ?_) (fun h => absurd (by decide) h)
    refine lv_iload_n hxe hcd dX7_faultOfNewTuning_10 rfl (lv_at hl 2 rfl) ?_
    refine lv_iconst (v := (nI 0)) hxe hcd dX7_faultOfNewTuning_11 (by decide) ?_
    refine lv_sipush (v := (nI 9999)) hxe hcd dX7_faultOfNewTuning_12 (by decide) ?_
    refine r_calli0 (r_runSN hZ S hW (As := [.int y, .int (nI 0), .int (nI 9999)]) (rest := []) (t_X9_isWithin l hZ (ids g) A (cE Z A g μ) H.size y (nI 0) (nI 9999)) k_X7_49 (hl.1) rfl rfl (Nat.le_of_ble_eq_true rfl) ⟨Nat.le_of_ble_eq_true rfl, Nat.le_of_ble_eq_true rfl⟩ ⟨Nat.le_of_ble_eq_true rfl, Nat.le_of_ble_eq_true rfl⟩ dX7_faultOfNewTuning_15) hW (fun r15 H locs hp15 hW => ?_)
    rcases hp15 with ⟨hp150, hp15⟩ | ⟨hp150, hp15⟩
    · subst hp150
      refine lv_if_eq (tgt := 25) hxe hcd dX7_faultOfNewTuning_18 (by decide) (fun h => absurd h (by decide)) (fun _ => ?_)
      refine lv_iconst (v := (nI 0)) hxe hcd dX7_faultOfNewTuning_21 (by decide) ?_
      refine lv_goto (tgt := 26) hxe hcd dX7_faultOfNewTuning_22 (by decide) ?_
      refine r_iret0 S hr hlk hW ?_ dX7_faultOfNewTuning_26
      first | exact Or.inr (Or.inl ⟨rfl, hp2⟩) | exact Or.inl ⟨rfl, hp2, hp15⟩ | exact Or.inr (Or.inr ⟨rfl, hp2, hp15⟩)
    · subst hp150
      refine lv_if_eq (tgt := 25) hxe hcd dX7_faultOfNewTuning_18 (by decide) (fun _ => ?_) (fun h => absurd (by decide) h)
      refine lv_iconst (v := (nI 2)) hxe hcd dX7_faultOfNewTuning_25 (by decide) ?_
      refine r_iret0 S hr hlk hW ?_ dX7_faultOfNewTuning_26
      first | exact Or.inr (Or.inl ⟨rfl, hp2⟩) | exact Or.inl ⟨rfl, hp2, hp15⟩ | exact Or.inr (Or.inr ⟨rfl, hp2, hp15⟩)
  · refine lv_if_eq (tgt := 10) hxe hcd dX7_faultOfNewTuning_5 (by decide) (fun h => absurd h (by decide)) (fun _ => ?_)
    refine lv_iconst (v := (nI 1)) hxe hcd dX7_faultOfNewTuning_8 (by decide) ?_
    refine r_iret0 S hr hlk hW ?_ dX7_faultOfNewTuning_9
    first | exact Or.inr (Or.inl ⟨rfl, hp2⟩) | exact Or.inl ⟨rfl, hp2, hp15⟩ | exact Or.inr (Or.inr ⟨rfl, hp2, hp15⟩)
set_option maxHeartbeats 4000000 in
set_option maxRecDepth 100000 in
theorem t_X7_faultOfDraining (l : Launch) {Z : ZT} (hZ : zOK Z) (A : Nat × Nat → Nat) (g : Nat → Bool) (μ : CM) (sz : Nat) {b : Nat} (hb : tB g b) {nt : Nat} (hc : μ b 9 4 = nI nt) (h4 : nt ≤ 4) (lv : Nat → Nat) (hlv : ∀ q, q < nt → μ b 12 q = nI (lv q) ∧ lv q ≤ 9) (x y : Int32) : XCi l yX7_faultOfDraining cX7_faultOfDraining 3 (some .int) 2 [.ref (A (b, 9)), .int x, .int y] Z (ids g) A (cE Z A g μ) sz (fun r => (r = nI 0 ∧ ∃ q, q < nt ∧ x = nI q ∧ ∃ j, 1 ≤ j ∧ j ≤ 9 ∧ y = nI j ∧ j ≤ lv q) ∨ (r = nI 1 ∧ ¬ IX x nt) ∨ (r = nI 2 ∧ IX x nt ∧ ¬ (nI 1 ≤ y ∧ y ≤ nI 9)) ∨ (r = nI 4 ∧ ∃ q, q < nt ∧ x = nI q ∧ ∃ j, 1 ≤ j ∧ j ≤ 9 ∧ y = nI j ∧ ¬ j ≤ lv q)) := by
  refine r_met (E := (cE Z A g μ)) (by decide +kernel) (Nat.le_of_ble_eq_true rfl) ?_
  intro p e s m below meth c ls S hr hlk hnm hsz hW hl
  have hxe := S.1
  have hcd := S.2.1
  subst hsz
  have hl : lv_has ls 3 [(0, .ref (A (b, 9))), (1, .int x), (2, .int y)] := hl
  refine lv_aload_n hxe hcd dX7_faultOfDraining_0 rfl (lv_at hl 0 rfl) ?_
  refine lv_iload_n hxe hcd dX7_faultOfDraining_1 rfl (lv_at hl 1 rfl) ?_
  refine r_calli0 (r_runV hZ S hW (As := [.int x]) (rest := []) (t_X7_faultOfTank l hZ A g μ s.heap.size hb hc h4 x) k_X7_53 (r_recv hW (x := (b, 9)) (in_t hb (by decide) (by decide)) rfl rfl) (hl.1) rfl rfl (Nat.le_of_ble_eq_true rfl) ⟨Nat.le_of_ble_eq_true rfl, Nat.le_of_ble_eq_true rfl⟩ ⟨Nat.le_of_ble_eq_true rfl, Nat.le_of_ble_eq_true rfl⟩ dX7_faultOfDraining_2) hW (fun r2 H locs hp2 hW => ?_)
  rcases hp2 with ⟨rfl, hp2⟩ | ⟨rfl, hp2⟩
  · refine lv_if_eq (tgt := 10) hxe hcd dX7_faultOfDraining_5 (by decide) (fun _ => ?_) (fun h => absurd (by decide) h)
    refine lv_iload_n hxe hcd dX7_faultOfDraining_10 rfl (lv_at hl 2 rfl) ?_
    refine lv_iconst (v := (nI 1)) hxe hcd dX7_faultOfDraining_11 (by decide) ?_
    refine lv_bipush (v := (nI 9)) hxe hcd dX7_faultOfDraining_12 (by decide) ?_
    refine r_calli0 (r_runSN hZ S hW (As := [.int y, .int (nI 1), .int (nI 9)]) (rest := []) (t_X9_isWithin l hZ (ids g) A (cE Z A g μ) H.size y (nI 1) (nI 9)) k_X7_49 (hl.1) rfl rfl (Nat.le_of_ble_eq_true rfl) ⟨Nat.le_of_ble_eq_true rfl, Nat.le_of_ble_eq_true rfl⟩ ⟨Nat.le_of_ble_eq_true rfl, Nat.le_of_ble_eq_true rfl⟩ dX7_faultOfDraining_14) hW (fun r14 H locs hp14 hW => ?_)
    rcases hp14 with ⟨hp140, hp14⟩ | ⟨hp140, hp14⟩
    · subst hp140
      refine lv_if_ne (tgt := 22) hxe hcd dX7_faultOfDraining_17 (by decide) (fun _ => ?_) (fun h => absurd h (by decide))
      obtain ⟨q, hq, rfl⟩ := hp2
      have hlq := hlv q hq
      obtain ⟨j, hj1, hj2, rfl⟩ := (I_rng2 (by decide) (by decide)).mp hp14
      refine lv_iload_n hxe hcd dX7_faultOfDraining_22 rfl (lv_at hl 2 rfl) ?_
      refine lv_aload_n hxe hcd dX7_faultOfDraining_23 rfl (lv_at hl 0 rfl) ?_
      refine lv_iload_n hxe hcd dX7_faultOfDraining_24 rfl (lv_at hl 1 rfl) ?_
      refine r_calli0 (r_runV hZ S hW (As := [.int (nI q)]) (rest := [.int (nI j)]) (t_X7_levelOf l hZ A g μ H.size hb (nI q)) k_X7_57 (r_recv hW (x := (b, 9)) (in_t hb (by decide) (by decide)) rfl rfl) (hl.1) rfl rfl (Nat.le_of_ble_eq_true rfl) ⟨Nat.le_of_ble_eq_true rfl, Nat.le_of_ble_eq_true rfl⟩ ⟨Nat.le_of_ble_eq_true rfl, Nat.le_of_ble_eq_true rfl⟩ dX7_faultOfDraining_25) hW (fun r25 H locs hp25 hW => ?_)
      have hp25 := hp25.symm
      subst hp25
      refine r_as (y := (nI (lv q))) (by rw [rd_in (n := 4) (k := q) _ (by omega) (by decide), hlq.1]) ?_
      refine n_gt S (a := j) (b := (lv q)) (by omega) (by omega) dX7_faultOfDraining_28 (tgt := 35) (by decide) (fun c28 => ?_) (fun c28 => ?_)
      · refine lv_iconst (v := (nI 4)) hxe hcd dX7_faultOfDraining_35 (by decide) ?_
        refine r_iret0 S hr hlk hW ?_ dX7_faultOfDraining_36
        first | exact Or.inr (Or.inl ⟨rfl, hp2⟩) | exact Or.inr (Or.inr (Or.inl ⟨rfl, hp2, hp14⟩)) | exact Or.inl ⟨rfl, q, hq, rfl, j, hj1, hj2, rfl, by omega⟩ | exact Or.inr (Or.inr (Or.inr ⟨rfl, q, hq, rfl, j, hj1, hj2, rfl, by omega⟩))
      · refine lv_iconst (v := (nI 0)) hxe hcd dX7_faultOfDraining_31 (by decide) ?_
        refine lv_goto (tgt := 36) hxe hcd dX7_faultOfDraining_32 (by decide) ?_
        refine r_iret0 S hr hlk hW ?_ dX7_faultOfDraining_36
        first | exact Or.inr (Or.inl ⟨rfl, hp2⟩) | exact Or.inr (Or.inr (Or.inl ⟨rfl, hp2, hp14⟩)) | exact Or.inl ⟨rfl, q, hq, rfl, j, hj1, hj2, rfl, by omega⟩ | exact Or.inr (Or.inr (Or.inr ⟨rfl, q, hq, rfl, j, hj1, hj2, rfl, by omega⟩))
    · subst hp140
      refine lv_if_ne (tgt := 22) hxe hcd dX7_faultOfDraining_17 (by decide) (fun h => absurd h (by decide)) (fun _ => ?_)
      refine lv_iconst (v := (nI 2)) hxe hcd dX7_faultOfDraining_20 (by decide) ?_
      refine r_iret0 S hr hlk hW ?_ dX7_faultOfDraining_21
      first | exact Or.inr (Or.inl ⟨rfl, hp2⟩) | exact Or.inr (Or.inr (Or.inl ⟨rfl, hp2, hp14⟩)) | exact Or.inl ⟨rfl, q, hq, rfl, j, hj1, hj2, rfl, by omega⟩ | exact Or.inr (Or.inr (Or.inr ⟨rfl, q, hq, rfl, j, hj1, hj2, rfl, by omega⟩))
  · refine lv_if_eq (tgt := 10) hxe hcd dX7_faultOfDraining_5 (by decide) (fun h => absurd h (by decide)) (fun _ => ?_)
    refine lv_iconst (v := (nI 1)) hxe hcd dX7_faultOfDraining_8 (by decide) ?_
    refine r_iret0 S hr hlk hW ?_ dX7_faultOfDraining_9
    first | exact Or.inr (Or.inl ⟨rfl, hp2⟩) | exact Or.inr (Or.inr (Or.inl ⟨rfl, hp2, hp14⟩)) | exact Or.inl ⟨rfl, q, hq, rfl, j, hj1, hj2, rfl, by omega⟩ | exact Or.inr (Or.inr (Or.inr ⟨rfl, q, hq, rfl, j, hj1, hj2, rfl, by omega⟩))
set_option maxHeartbeats 4000000 in
set_option maxRecDepth 100000 in
theorem t_X7_faultOfFrame (l : Launch) {Z : ZT} (hZ : zOK Z) (A : Nat × Nat → Nat) (g : Nat → Bool) (μ : CM) (sz : Nat) {b : Nat} (hb : tB g b) {nt : Nat} (hc : μ b 9 4 = nI nt) (h4 : nt ≤ 4) (lv : Nat → Nat) (hlv : ∀ q, q < nt → μ b 12 q = nI (lv q) ∧ lv q ≤ 9) (x y : Int32) : XCi l yX7_faultOfFrame cX7_faultOfFrame 3 (some .int) 2 [.ref (A (b, 9)), .int x, .int y] Z (ids g) A (cE Z A g μ) sz (fun r => (r = nI 0 ∧ ∃ q, q < nt ∧ x = nI q ∧ IX y (lv q)) ∨ (r = nI 1 ∧ ¬ IX x nt) ∨ (r = nI 4 ∧ ∃ q, q < nt ∧ x = nI q ∧ ¬ IX y (lv q))) := by
  refine r_met (E := (cE Z A g μ)) (by decide +kernel) (Nat.le_of_ble_eq_true rfl) ?_
  intro p e s m below meth c ls S hr hlk hnm hsz hW hl
  have hxe := S.1
  have hcd := S.2.1
  subst hsz
  have hl : lv_has ls 3 [(0, .ref (A (b, 9))), (1, .int x), (2, .int y)] := hl
  refine lv_aload_n hxe hcd dX7_faultOfFrame_0 rfl (lv_at hl 0 rfl) ?_
  refine lv_iload_n hxe hcd dX7_faultOfFrame_1 rfl (lv_at hl 1 rfl) ?_
  refine r_calli0 (r_runV hZ S hW (As := [.int x]) (rest := []) (t_X7_faultOfTank l hZ A g μ s.heap.size hb hc h4 x) k_X7_53 (r_recv hW (x := (b, 9)) (in_t hb (by decide) (by decide)) rfl rfl) (hl.1) rfl rfl (Nat.le_of_ble_eq_true rfl) ⟨Nat.le_of_ble_eq_true rfl, Nat.le_of_ble_eq_true rfl⟩ ⟨Nat.le_of_ble_eq_true rfl, Nat.le_of_ble_eq_true rfl⟩ dX7_faultOfFrame_2) hW (fun r2 H locs hp2 hW => ?_)
  rcases hp2 with ⟨rfl, hp2⟩ | ⟨rfl, hp2⟩
  · refine lv_if_eq (tgt := 10) hxe hcd dX7_faultOfFrame_5 (by decide) (fun _ => ?_) (fun h => absurd (by decide) h)
    obtain ⟨q, hq, rfl⟩ := hp2
    have hlq := hlv q hq
    refine lv_iload_n hxe hcd dX7_faultOfFrame_10 rfl (lv_at hl 2 rfl) ?_
    refine lv_iconst (v := (nI 0)) hxe hcd dX7_faultOfFrame_11 (by decide) ?_
    refine lv_aload_n hxe hcd dX7_faultOfFrame_12 rfl (lv_at hl 0 rfl) ?_
    refine lv_iload_n hxe hcd dX7_faultOfFrame_13 rfl (lv_at hl 1 rfl) ?_
    refine r_calli0 (r_runV hZ S hW (As := [.int (nI q)]) (rest := [.int (nI 0), .int y]) (t_X7_levelOf l hZ A g μ H.size hb (nI q)) k_X7_57 (r_recv hW (x := (b, 9)) (in_t hb (by decide) (by decide)) rfl rfl) (hl.1) rfl rfl (Nat.le_of_ble_eq_true rfl) ⟨Nat.le_of_ble_eq_true rfl, Nat.le_of_ble_eq_true rfl⟩ ⟨Nat.le_of_ble_eq_true rfl, Nat.le_of_ble_eq_true rfl⟩ dX7_faultOfFrame_14) hW (fun r14 H locs hp14 hW => ?_)
    have hp14 := hp14.symm
    subst hp14
    refine r_as (y := (nI (lv q))) (by rw [rd_in (n := 4) (k := q) _ (by omega) (by decide), hlq.1]) ?_
    refine lv_iconst (v := (nI 1)) hxe hcd dX7_faultOfFrame_17 (by decide) ?_
    refine lv_isub hxe hcd dX7_faultOfFrame_18 ?_
    refine r_calli0 (r_runSN hZ S hW (As := [.int y, .int (nI 0), .int ((nI (lv q)) - (nI 1))]) (rest := []) (t_X9_isWithin l hZ (ids g) A (cE Z A g μ) H.size y (nI 0) ((nI (lv q)) - (nI 1))) k_X7_49 (hl.1) rfl rfl (Nat.le_of_ble_eq_true rfl) ⟨Nat.le_of_ble_eq_true rfl, Nat.le_of_ble_eq_true rfl⟩ ⟨Nat.le_of_ble_eq_true rfl, Nat.le_of_ble_eq_true rfl⟩ dX7_faultOfFrame_19) hW (fun r19 H locs hp19 hW => ?_)
    rcases hp19 with ⟨hp190, hp19⟩ | ⟨hp190, hp19⟩
    · subst hp190
      refine lv_if_eq (tgt := 29) hxe hcd dX7_faultOfFrame_22 (by decide) (fun h => absurd h (by decide)) (fun _ => ?_)
      refine lv_iconst (v := (nI 0)) hxe hcd dX7_faultOfFrame_25 (by decide) ?_
      refine lv_goto (tgt := 30) hxe hcd dX7_faultOfFrame_26 (by decide) ?_
      refine r_iret0 S hr hlk hW ?_ dX7_faultOfFrame_30
      first | exact Or.inr (Or.inl ⟨rfl, hp2⟩) | exact Or.inl ⟨rfl, q, hq, rfl, (IX_sub (by omega)).mp hp19⟩ | exact Or.inr (Or.inr ⟨rfl, q, hq, rfl, fun h => hp19 ((IX_sub (by omega)).mpr h)⟩)
    · subst hp190
      refine lv_if_eq (tgt := 29) hxe hcd dX7_faultOfFrame_22 (by decide) (fun _ => ?_) (fun h => absurd (by decide) h)
      refine lv_iconst (v := (nI 4)) hxe hcd dX7_faultOfFrame_29 (by decide) ?_
      refine r_iret0 S hr hlk hW ?_ dX7_faultOfFrame_30
      first | exact Or.inr (Or.inl ⟨rfl, hp2⟩) | exact Or.inl ⟨rfl, q, hq, rfl, (IX_sub (by omega)).mp hp19⟩ | exact Or.inr (Or.inr ⟨rfl, q, hq, rfl, fun h => hp19 ((IX_sub (by omega)).mpr h)⟩)
  · refine lv_if_eq (tgt := 10) hxe hcd dX7_faultOfFrame_5 (by decide) (fun h => absurd h (by decide)) (fun _ => ?_)
    refine lv_iconst (v := (nI 1)) hxe hcd dX7_faultOfFrame_8 (by decide) ?_
    refine r_iret0 S hr hlk hW ?_ dX7_faultOfFrame_9
    first | exact Or.inr (Or.inl ⟨rfl, hp2⟩) | exact Or.inl ⟨rfl, q, hq, rfl, (IX_sub (by omega)).mp hp19⟩ | exact Or.inr (Or.inr ⟨rfl, q, hq, rfl, fun h => hp19 ((IX_sub (by omega)).mpr h)⟩)
set_option maxHeartbeats 4000000 in
set_option maxRecDepth 100000 in
theorem t_X7_putTank (l : Launch) {Z : ZT} (hZ : zOK Z) (A : Nat × Nat → Nat) (g : Nat → Bool) (μ : CM) (sz : Nat) {b : Nat} (hb : tB g b) {nt : Nat} (hc : μ b 9 4 = nI nt) (h4 : nt < 4) (x : Int32) : XMi l yX7_putTank cX7_putTank 3 (some .int) 1 [.ref (A (b, 9)), .int x] Z (ids g) A (cE Z A g) μ sz (fun r u => r = nI nt ∧ u = up2 (up2 (up2 (up2 μ b 10 (upd (μ b 10) nt x)) b 11 (upd (μ b 11) nt (nI 9999))) b 12 (upd (μ b 12) nt (nI 0))) b 9 (upd (μ b 9) 4 (nI (nt + 1)))) := by
  refine r_met (E := (cE Z A g μ)) (by decide +kernel) (Nat.le_of_ble_eq_true rfl) ?_
  intro p e s m below meth c ls S hr hlk hnm hsz hW hl
  have hxe := S.1
  have hcd := S.2.1
  subst hsz
  have hl : lv_has ls 3 [(0, .ref (A (b, 9))), (1, .int x)] := hl
  refine lv_aload_n hxe hcd dX7_putTank_0 rfl (lv_at hl 0 rfl) ?_
  refine gf_X7_24 S hW hb dX7_putTank_1 ?_
  refine r_as (y := (nI nt)) (hc) ?_
  refine lv_istore_n (lv' := [(2, .int (nI nt)), (0, .ref (A (b, 9))), (1, .int x)]) hxe hcd dX7_putTank_4 rfl hl (by decide) rfl (fun ls hl => ?_)
  refine lv_aload_n hxe hcd dX7_putTank_5 rfl (lv_at hl 1 rfl) ?_
  refine gf_X7_9 S hW hb dX7_putTank_6 ?_
  refine lv_iload_n hxe hcd dX7_putTank_9 rfl (lv_at hl 0 rfl) ?_
  refine lv_iload_n hxe hcd dX7_putTank_10 rfl (lv_at hl 2 rfl) ?_
  refine r_callv (F := (cE Z A g)) (r_runSN hZ S hW (As := [.ref (A (b, 10)), .int (nI nt), .int x]) (rest := []) (t_X9_write l hZ A g μ s.heap.size (b := b) (o := 10) (n := 4) rfl (in_t hb (by decide) (by decide)) (nI nt) x) k_X7_45 (hl.1) rfl rfl (Nat.le_of_ble_eq_true rfl) ⟨Nat.le_of_ble_eq_true rfl, Nat.le_of_ble_eq_true rfl⟩ ⟨Nat.le_of_ble_eq_true rfl, Nat.le_of_ble_eq_true rfl⟩ dX7_putTank_11) hW (fun u11 H locs hp11 hW => ?_)
  have hp11 := hp11.symm
  subst hp11
  refine lv_aload_n hxe hcd dX7_putTank_14 rfl (lv_at hl 1 rfl) ?_
  refine gf_X7_15 S hW hb dX7_putTank_15 ?_
  refine lv_iload_n hxe hcd dX7_putTank_18 rfl (lv_at hl 0 rfl) ?_
  refine lv_sipush (v := (nI 9999)) hxe hcd dX7_putTank_19 (by decide) ?_
  refine r_callv (F := (cE Z A g)) (r_runSN hZ S hW (As := [.ref (A (b, 11)), .int (nI nt), .int (nI 9999)]) (rest := []) (t_X9_write l hZ A g (up2 μ b 10 (wr 4 (μ b 10) (nI nt) x)) H.size (b := b) (o := 11) (n := 4) rfl (in_t hb (by decide) (by decide)) (nI nt) (nI 9999)) k_X7_45 (hl.1) rfl rfl (Nat.le_of_ble_eq_true rfl) ⟨Nat.le_of_ble_eq_true rfl, Nat.le_of_ble_eq_true rfl⟩ ⟨Nat.le_of_ble_eq_true rfl, Nat.le_of_ble_eq_true rfl⟩ dX7_putTank_22) hW (fun u22 H locs hp22 hW => ?_)
  have hp22 := hp22.symm
  subst hp22
  refine lv_aload_n hxe hcd dX7_putTank_25 rfl (lv_at hl 1 rfl) ?_
  refine gf_X7_18 S hW hb dX7_putTank_26 ?_
  refine lv_iload_n hxe hcd dX7_putTank_29 rfl (lv_at hl 0 rfl) ?_
  refine lv_iconst (v := (nI 0)) hxe hcd dX7_putTank_30 (by decide) ?_
  refine r_callv (F := (cE Z A g)) (r_runSN hZ S hW (As := [.ref (A (b, 12)), .int (nI nt), .int (nI 0)]) (rest := []) (t_X9_write l hZ A g (up2 (up2 μ b 10 (wr 4 (μ b 10) (nI nt) x)) b 11 (wr 4 ((up2 μ b 10 (wr 4 (μ b 10) (nI nt) x)) b 11) (nI nt) (nI 9999))) H.size (b := b) (o := 12) (n := 4) rfl (in_t hb (by decide) (by decide)) (nI nt) (nI 0)) k_X7_45 (hl.1) rfl rfl (Nat.le_of_ble_eq_true rfl) ⟨Nat.le_of_ble_eq_true rfl, Nat.le_of_ble_eq_true rfl⟩ ⟨Nat.le_of_ble_eq_true rfl, Nat.le_of_ble_eq_true rfl⟩ dX7_putTank_31) hW (fun u31 H locs hp31 hW => ?_)
  have hp31 := hp31.symm
  subst hp31
  refine lv_aload_n hxe hcd dX7_putTank_34 rfl (lv_at hl 1 rfl) ?_
  refine lv_dup hxe hcd dX7_putTank_35 rfl ?_
  refine gf_X7_24 S hW hb dX7_putTank_36 ?_
  refine r_as (y := (nI nt)) (by rw [up2_o (o2 := 9) (o := 12) (by decide), up2_o (o2 := 9) (o := 11) (by decide), up2_o (o2 := 9) (o := 10) (by decide), hc]) ?_
  refine lv_iconst (v := (nI 1)) hxe hcd dX7_putTank_39 (by decide) ?_
  refine n_iadd S (a := nt) (b := 1) dX7_putTank_40 ?_
  refine gp_X7_24 S hW hb dX7_putTank_41 (fun H locs hW => ?_)
  refine lv_iload_n hxe hcd dX7_putTank_44 rfl (lv_at hl 0 rfl) ?_
  refine r_iret S hr hlk (F := (cE Z A g)) (u := (up2 (up2 (up2 (up2 μ b 10 (wr 4 (μ b 10) (nI nt) x)) b 11 (wr 4 ((up2 μ b 10 (wr 4 (μ b 10) (nI nt) x)) b 11) (nI nt) (nI 9999))) b 12 (wr 4 ((up2 (up2 μ b 10 (wr 4 (μ b 10) (nI nt) x)) b 11 (wr 4 ((up2 μ b 10 (wr 4 (μ b 10) (nI nt) x)) b 11) (nI nt) (nI 9999))) b 12) (nI nt) (nI 0))) b 9 (upd ((up2 (up2 (up2 μ b 10 (wr 4 (μ b 10) (nI nt) x)) b 11 (wr 4 ((up2 μ b 10 (wr 4 (μ b 10) (nI nt) x)) b 11) (nI nt) (nI 9999))) b 12 (wr 4 ((up2 (up2 μ b 10 (wr 4 (μ b 10) (nI nt) x)) b 11 (wr 4 ((up2 μ b 10 (wr 4 (μ b 10) (nI nt) x)) b 11) (nI nt) (nI 9999))) b 12) (nI nt) (nI 0))) b 9) 4 (nI (nt + 1))))) hW ?_ dX7_putTank_45
  refine ⟨rfl, ?_⟩
  rw [up2_o (o2 := 9) (o := 12) (by decide), up2_o (o2 := 9) (o := 11) (by decide), up2_o (o2 := 9) (o := 10) (by decide), up2_o (o2 := 12) (o := 11) (by decide), up2_o (o2 := 12) (o := 10) (by decide), up2_o (o2 := 11) (o := 10) (by decide), wr_in (n := 4) (k := nt) _ _ h4 (by decide), wr_in (n := 4) (k := nt) _ _ h4 (by decide), wr_in (n := 4) (k := nt) _ _ h4 (by decide)]
set_option maxHeartbeats 4000000 in
set_option maxRecDepth 100000 in
theorem t_X7_tune (l : Launch) {Z : ZT} (hZ : zOK Z) (A : Nat × Nat → Nat) (g : Nat → Bool) (μ : CM) (sz : Nat) {b : Nat} (hb : tB g b) {q : Nat} (hq : q < 4) (y : Int32) : XMi l yX7_tune cX7_tune 4 (some .int) 2 [.ref (A (b, 9)), .int (nI q), .int y] Z (ids g) A (cE Z A g) μ sz (fun r u => r = μ b 11 q ∧ u = up2 μ b 11 (upd (μ b 11) q y)) := by
  refine r_met (E := (cE Z A g μ)) (by decide +kernel) (Nat.le_of_ble_eq_true rfl) ?_
  intro p e s m below meth c ls S hr hlk hnm hsz hW hl
  have hxe := S.1
  have hcd := S.2.1
  subst hsz
  have hl : lv_has ls 4 [(0, .ref (A (b, 9))), (1, .int (nI q)), (2, .int y)] := hl
  refine lv_aload_n hxe hcd dX7_tune_0 rfl (lv_at hl 0 rfl) ?_
  refine lv_iload_n hxe hcd dX7_tune_1 rfl (lv_at hl 1 rfl) ?_
  refine r_calli0 (r_runV hZ S hW (As := [.int (nI q)]) (rest := []) (t_X7_tuningOf l hZ A g μ s.heap.size hb (nI q)) k_X7_60 (r_recv hW (x := (b, 9)) (in_t hb (by decide) (by decide)) rfl rfl) (hl.1) rfl rfl (Nat.le_of_ble_eq_true rfl) ⟨Nat.le_of_ble_eq_true rfl, Nat.le_of_ble_eq_true rfl⟩ ⟨Nat.le_of_ble_eq_true rfl, Nat.le_of_ble_eq_true rfl⟩ dX7_tune_2) hW (fun r2 H locs hp2 hW => ?_)
  have hp2 := hp2.symm
  subst hp2
  refine lv_istore_n (lv' := [(3, .int (rd 4 (μ b 11) (nI q))), (0, .ref (A (b, 9))), (1, .int (nI q)), (2, .int y)]) hxe hcd dX7_tune_5 rfl hl (by decide) rfl (fun ls hl => ?_)
  refine lv_aload_n hxe hcd dX7_tune_6 rfl (lv_at hl 1 rfl) ?_
  refine gf_X7_15 S hW hb dX7_tune_7 ?_
  refine lv_iload_n hxe hcd dX7_tune_10 rfl (lv_at hl 2 rfl) ?_
  refine lv_iload_n hxe hcd dX7_tune_11 rfl (lv_at hl 3 rfl) ?_
  refine r_callv (F := (cE Z A g)) (r_runSN hZ S hW (As := [.ref (A (b, 11)), .int (nI q), .int y]) (rest := []) (t_X9_write l hZ A g μ H.size (b := b) (o := 11) (n := 4) rfl (in_t hb (by decide) (by decide)) (nI q) y) k_X7_45 (hl.1) rfl rfl (Nat.le_of_ble_eq_true rfl) ⟨Nat.le_of_ble_eq_true rfl, Nat.le_of_ble_eq_true rfl⟩ ⟨Nat.le_of_ble_eq_true rfl, Nat.le_of_ble_eq_true rfl⟩ dX7_tune_12) hW (fun u12 H locs hp12 hW => ?_)
  have hp12 := hp12.symm
  subst hp12
  refine lv_iload_n hxe hcd dX7_tune_15 rfl (lv_at hl 0 rfl) ?_
  refine r_iret S hr hlk (F := (cE Z A g)) (u := (up2 μ b 11 (wr 4 (μ b 11) (nI q) y))) hW ?_ dX7_tune_16
  rw [rd_in (n := 4) (k := q) _ hq (by decide), wr_in (n := 4) (k := q) _ _ hq (by decide)]
  exact ⟨rfl, rfl⟩
set_option maxHeartbeats 4000000 in
set_option maxRecDepth 100000 in
theorem t_X7_accepts (l : Launch) {Z : ZT} (hZ : zOK Z) (A : Nat × Nat → Nat) (g : Nat → Bool) (μ : CM) (sz : Nat) {b : Nat} (hb : tB g b) {q : Nat} (hq : q < 4) (x : Int32) : XCi l yX7_accepts cX7_accepts 3 (some .boolean) 2 [.ref (A (b, 9)), .int (nI q), .int x] Z (ids g) A (cE Z A g μ) sz (fun r => BP r (μ b 12 q < μ b 10 q ∧ x ≤ μ b 11 q)) := by
  refine r_met (E := (cE Z A g μ)) (by decide +kernel) (Nat.le_of_ble_eq_true rfl) ?_
  intro p e s m below meth c ls S hr hlk hnm hsz hW hl
  have hxe := S.1
  have hcd := S.2.1
  subst hsz
  have hl : lv_has ls 3 [(0, .ref (A (b, 9))), (1, .int (nI q)), (2, .int x)] := hl
  refine lv_aload_n hxe hcd dX7_accepts_0 rfl (lv_at hl 0 rfl) ?_
  refine lv_iload_n hxe hcd dX7_accepts_1 rfl (lv_at hl 1 rfl) ?_
  refine r_calli0 (r_runV hZ S hW (As := [.int (nI q)]) (rest := []) (t_X7_levelOf l hZ A g μ s.heap.size hb (nI q)) k_X7_57 (r_recv hW (x := (b, 9)) (in_t hb (by decide) (by decide)) rfl rfl) (hl.1) rfl rfl (Nat.le_of_ble_eq_true rfl) ⟨Nat.le_of_ble_eq_true rfl, Nat.le_of_ble_eq_true rfl⟩ ⟨Nat.le_of_ble_eq_true rfl, Nat.le_of_ble_eq_true rfl⟩ dX7_accepts_2) hW (fun r2 H locs hp2 hW => ?_)
  have hp2 := hp2.symm
  subst hp2
  refine lv_aload_n hxe hcd dX7_accepts_5 rfl (lv_at hl 0 rfl) ?_
  refine lv_iload_n hxe hcd dX7_accepts_6 rfl (lv_at hl 1 rfl) ?_
  refine r_calli0 (r_runV hZ S hW (As := [.int (nI q)]) (rest := [.int (rd 4 (μ b 12) (nI q))]) (t_X7_capacityOf l hZ A g μ H.size hb (nI q)) k_X7_74 (r_recv hW (x := (b, 9)) (in_t hb (by decide) (by decide)) rfl rfl) (hl.1) rfl rfl (Nat.le_of_ble_eq_true rfl) ⟨Nat.le_of_ble_eq_true rfl, Nat.le_of_ble_eq_true rfl⟩ ⟨Nat.le_of_ble_eq_true rfl, Nat.le_of_ble_eq_true rfl⟩ dX7_accepts_7) hW (fun r7 H locs hp7 hW => ?_)
  have hp7 := hp7.symm
  subst hp7
  refine lv_icmp_ge (tgt := 26) hxe hcd dX7_accepts_10 (by decide) (fun c10 => ?_) (fun c10 => ?_)
  · refine lv_iconst (v := (nI 0)) hxe hcd dX7_accepts_26 (by decide) ?_
    refine r_zret0 S hr hlk hW (by decide +kernel) ?_ dX7_accepts_27
    rw [rd_in (n := 4) (k := q) _ hq (by decide), rd_in (n := 4) (k := q) _ hq (by decide)] at c10
    exact BP_f (fun h => I_nlt.mpr c10 h.1)
  · refine lv_iload_n hxe hcd dX7_accepts_13 rfl (lv_at hl 2 rfl) ?_
    refine lv_aload_n hxe hcd dX7_accepts_14 rfl (lv_at hl 0 rfl) ?_
    refine lv_iload_n hxe hcd dX7_accepts_15 rfl (lv_at hl 1 rfl) ?_
    refine r_calli0 (r_runV hZ S hW (As := [.int (nI q)]) (rest := [.int x]) (t_X7_tuningOf l hZ A g μ H.size hb (nI q)) k_X7_60 (r_recv hW (x := (b, 9)) (in_t hb (by decide) (by decide)) rfl rfl) (hl.1) rfl rfl (Nat.le_of_ble_eq_true rfl) ⟨Nat.le_of_ble_eq_true rfl, Nat.le_of_ble_eq_true rfl⟩ ⟨Nat.le_of_ble_eq_true rfl, Nat.le_of_ble_eq_true rfl⟩ dX7_accepts_16) hW (fun r16 H locs hp16 hW => ?_)
    have hp16 := hp16.symm
    subst hp16
    refine lv_icmp_gt (tgt := 26) hxe hcd dX7_accepts_19 (by decide) (fun c19 => ?_) (fun c19 => ?_)
    · refine lv_iconst (v := (nI 0)) hxe hcd dX7_accepts_26 (by decide) ?_
      refine r_zret0 S hr hlk hW (by decide +kernel) ?_ dX7_accepts_27
      rw [rd_in (n := 4) (k := q) _ hq (by decide), rd_in (n := 4) (k := q) _ hq (by decide)] at c10
      rw [rd_in (n := 4) (k := q) _ hq (by decide)] at c19
      exact BP_f (fun h => I_nle.mpr c19 h.2)
    · refine lv_iconst (v := (nI 1)) hxe hcd dX7_accepts_22 (by decide) ?_
      refine lv_goto (tgt := 27) hxe hcd dX7_accepts_23 (by decide) ?_
      refine r_zret0 S hr hlk hW (by decide +kernel) ?_ dX7_accepts_27
      rw [rd_in (n := 4) (k := q) _ hq (by decide), rd_in (n := 4) (k := q) _ hq (by decide)] at c10
      rw [rd_in (n := 4) (k := q) _ hq (by decide)] at c19
      exact BP_t ⟨I_nle.mp c10, I_nlt.mp c19⟩
set_option maxHeartbeats 4000000 in
set_option maxRecDepth 100000 in
theorem t_X7_roomOf (l : Launch) {Z : ZT} (hZ : zOK Z) (A : Nat × Nat → Nat) (g : Nat → Bool) (μ : CM) (sz : Nat) {b : Nat} (hb : tB g b) {q : Nat} (hq : q < 4) : XCi l yX7_roomOf cX7_roomOf 2 (some .int) 2 [.ref (A (b, 9)), .int (nI q)] Z (ids g) A (cE Z A g μ) sz (fun r => r = μ b 10 q - μ b 12 q) := by
  refine r_met (E := (cE Z A g μ)) (by decide +kernel) (Nat.le_of_ble_eq_true rfl) ?_
  intro p e s m below meth c ls S hr hlk hnm hsz hW hl
  have hxe := S.1
  have hcd := S.2.1
  subst hsz
  have hl : lv_has ls 2 [(0, .ref (A (b, 9))), (1, .int (nI q))] := hl
  refine lv_aload_n hxe hcd dX7_roomOf_0 rfl (lv_at hl 0 rfl) ?_
  refine lv_iload_n hxe hcd dX7_roomOf_1 rfl (lv_at hl 1 rfl) ?_
  refine r_calli0 (r_runV hZ S hW (As := [.int (nI q)]) (rest := []) (t_X7_capacityOf l hZ A g μ s.heap.size hb (nI q)) k_X7_74 (r_recv hW (x := (b, 9)) (in_t hb (by decide) (by decide)) rfl rfl) (hl.1) rfl rfl (Nat.le_of_ble_eq_true rfl) ⟨Nat.le_of_ble_eq_true rfl, Nat.le_of_ble_eq_true rfl⟩ ⟨Nat.le_of_ble_eq_true rfl, Nat.le_of_ble_eq_true rfl⟩ dX7_roomOf_2) hW (fun r2 H locs hp2 hW => ?_)
  have hp2 := hp2.symm
  subst hp2
  refine lv_aload_n hxe hcd dX7_roomOf_5 rfl (lv_at hl 0 rfl) ?_
  refine lv_iload_n hxe hcd dX7_roomOf_6 rfl (lv_at hl 1 rfl) ?_
  refine r_calli0 (r_runV hZ S hW (As := [.int (nI q)]) (rest := [.int (rd 4 (μ b 10) (nI q))]) (t_X7_levelOf l hZ A g μ H.size hb (nI q)) k_X7_57 (r_recv hW (x := (b, 9)) (in_t hb (by decide) (by decide)) rfl rfl) (hl.1) rfl rfl (Nat.le_of_ble_eq_true rfl) ⟨Nat.le_of_ble_eq_true rfl, Nat.le_of_ble_eq_true rfl⟩ ⟨Nat.le_of_ble_eq_true rfl, Nat.le_of_ble_eq_true rfl⟩ dX7_roomOf_7) hW (fun r7 H locs hp7 hW => ?_)
  have hp7 := hp7.symm
  subst hp7
  refine lv_isub hxe hcd dX7_roomOf_10 ?_
  refine r_iret0 S hr hlk hW ?_ dX7_roomOf_11
  rw [rd_in (n := 4) (k := q) _ hq (by decide), rd_in (n := 4) (k := q) _ hq (by decide)]
