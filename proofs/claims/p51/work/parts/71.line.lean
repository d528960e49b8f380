set_option maxHeartbeats 4000000 in
set_option maxRecDepth 100000 in
theorem t_X3_clear (l : Launch) {Z : ZT} (hZ : zOK Z) (A : Nat × Nat → Nat) (g : Nat → Bool) (μ : CM) (sz : Nat)  : XMv l yX3_clear cX3_clear 1 0 [.ref (A (0, 26))] Z (ids g) A (cE Z A g) μ sz (fun u => u = up2 μ 0 26 (upd (μ 0 26) 1 (nI 0))) := by
  refine r_met (E := (cE Z A g μ)) (by decide +kernel) (Nat.le_of_ble_eq_true rfl) ?_
  intro p e s m below meth c ls S hr hlk hnm hsz hW hl
  have hxe := S.1
  have hcd := S.2.1
  subst hsz
  have hl : lv_has ls 1 [(0, .ref (A (0, 26)))] := hl
  refine lv_aload_n hxe hcd dX3_clear_0 rfl (lv_at hl 0 rfl) ?_
  refine lv_iconst (v := (nI 0)) hxe hcd dX3_clear_1 (by decide) ?_
  refine gp_X3_15 S hW dX3_clear_2 (fun H locs hW => ?_)
  refine r_vret S hr hlk (F := (cE Z A g)) (u := (up2 μ 0 26 (upd (μ 0 26) 1 (nI 0)))) hW ?_ dX3_clear_5
  rfl
set_option maxHeartbeats 4000000 in
set_option maxRecDepth 100000 in
theorem t_X3_signAt (l : Launch) {Z : ZT} (hZ : zOK Z) (A : Nat × Nat → Nat) (g : Nat → Bool) (μ : CM) (sz : Nat) (x : Int32) : XCi l yX3_signAt cX3_signAt 2 (some .int) 1 [.ref (A (0, 26)), .int x] Z (ids g) A (cE Z A g μ) sz (fun r => r = rd 80 (μ 0 27) x) := by
  refine r_met (E := (cE Z A g μ)) (by decide +kernel) (Nat.le_of_ble_eq_true rfl) ?_
  intro p e s m below meth c ls S hr hlk hnm hsz hW hl
  have hxe := S.1
  have hcd := S.2.1
  subst hsz
  have hl : lv_has ls 2 [(0, .ref (A (0, 26))), (1, .int x)] := hl
  refine lv_aload_n hxe hcd dX3_signAt_0 rfl (lv_at hl 0 rfl) ?_
  refine gf_X3_9 S hW dX3_signAt_1 ?_
  refine lv_iload_n hxe hcd dX3_signAt_4 rfl (lv_at hl 1 rfl) ?_
  refine r_calli0 (r_runSN hZ S hW (As := [.ref (A (0, 27)), .int x]) (rest := []) (t_X9_read l hZ A g μ s.heap.size (b := 0) (o := 27) (n := 80) rfl (in_r (by decide) (by decide)) x) k_X3_19 (hl.1) rfl rfl (Nat.le_of_ble_eq_true rfl) ⟨Nat.le_of_ble_eq_true rfl, Nat.le_of_ble_eq_true rfl⟩ ⟨Nat.le_of_ble_eq_true rfl, Nat.le_of_ble_eq_true rfl⟩ dX3_signAt_5) hW (fun r5 H locs hp5 hW => ?_)
  have hp5 := hp5.symm
  subst hp5
  refine r_iret0 S hr hlk hW ?_ dX3_signAt_8
  rfl
set_option maxHeartbeats 4000000 in
set_option maxRecDepth 100000 in
theorem t_X3_putSign (l : Launch) {Z : ZT} (hZ : zOK Z) (A : Nat × Nat → Nat) (g : Nat → Bool) (μ : CM) (sz : Nat) {lN : Nat} (hlN : μ 0 26 1 = nI lN) (h80 : lN < 80) (x : Int32) : XMv l yX3_putSign cX3_putSign 2 1 [.ref (A (0, 26)), .int x] Z (ids g) A (cE Z A g) μ sz (fun u => u = up2 (up2 μ 0 27 (upd (μ 0 27) lN x)) 0 26 (upd (μ 0 26) 1 (nI (lN + 1)))) := by
  refine r_met (E := (cE Z A g μ)) (by decide +kernel) (Nat.le_of_ble_eq_true rfl) ?_
  intro p e s m below meth c ls S hr hlk hnm hsz hW hl
  have hxe := S.1
  have hcd := S.2.1
  subst hsz
  have hl : lv_has ls 2 [(0, .ref (A (0, 26))), (1, .int x)] := hl
  refine lv_aload_n hxe hcd dX3_putSign_0 rfl (lv_at hl 0 rfl) ?_
  refine gf_X3_9 S hW dX3_putSign_1 ?_
  refine lv_aload_n hxe hcd dX3_putSign_4 rfl (lv_at hl 0 rfl) ?_
  refine gf_X3_15 S hW dX3_putSign_5 ?_
  refine r_as (y := (nI lN)) (hlN) ?_
  refine lv_iload_n hxe hcd dX3_putSign_8 rfl (lv_at hl 1 rfl) ?_
  refine r_callv (F := (cE Z A g)) (r_runSN hZ S hW (As := [.ref (A (0, 27)), .int (nI lN), .int x]) (rest := []) (t_X9_write l hZ A g μ s.heap.size (b := 0) (o := 27) (n := 80) rfl (in_r (by decide) (by decide)) (nI lN) x) k_X3_23 (hl.1) rfl rfl (Nat.le_of_ble_eq_true rfl) ⟨Nat.le_of_ble_eq_true rfl, Nat.le_of_ble_eq_true rfl⟩ ⟨Nat.le_of_ble_eq_true rfl, Nat.le_of_ble_eq_true rfl⟩ dX3_putSign_9) hW (fun u9 H locs hp9 hW => ?_)
  have hp9 := hp9.symm
  subst hp9
  refine lv_aload_n hxe hcd dX3_putSign_12 rfl (lv_at hl 0 rfl) ?_
  refine lv_dup hxe hcd dX3_putSign_13 rfl ?_
  refine gf_X3_15 S hW dX3_putSign_14 ?_
  refine r_as (y := (nI lN)) (by rw [up2_o (o2 := 26) (o := 27) (by decide), hlN]) ?_
  refine lv_iconst (v := (nI 1)) hxe hcd dX3_putSign_17 (by decide) ?_
  refine n_iadd S (a := lN) (b := 1) dX3_putSign_18 ?_
  refine gp_X3_15 S hW dX3_putSign_19 (fun H locs hW => ?_)
  refine r_vret S hr hlk (F := (cE Z A g)) (u := (up2 (up2 μ 0 27 (wr 80 (μ 0 27) (nI lN) x)) 0 26 (upd ((up2 μ 0 27 (wr 80 (μ 0 27) (nI lN) x)) 0 26) 1 (nI (lN + 1))))) hW ?_ dX3_putSign_22
  rw [up2_o (o2 := 26) (o := 27) (by decide), wr_in (n := 80) (k := lN) _ _ h80 (by decide)]
set_option maxHeartbeats 4000000 in
set_option maxRecDepth 100000 in
theorem t_X1_clear (l : Launch) {Z : ZT} (hZ : zOK Z) (A : Nat × Nat → Nat) (g : Nat → Bool) (μ : CM) (sz : Nat)  : XMv l yX1_clear cX1_clear 1 0 [.ref (A (0, 22))] Z (ids g) A (cE Z A g) μ sz (fun u => u = up2 μ 0 22 (upd (μ 0 22) 1 (nI 0))) := by
  refine r_met (E := (cE Z A g μ)) (by decide +kernel) (Nat.le_of_ble_eq_true rfl) ?_
  intro p e s m below meth c ls S hr hlk hnm hsz hW hl
  have hxe := S.1
  have hcd := S.2.1
  subst hsz
  have hl : lv_has ls 1 [(0, .ref (A (0, 22)))] := hl
  refine lv_aload_n hxe hcd dX1_clear_0 rfl (lv_at hl 0 rfl) ?_
  refine lv_iconst (v := (nI 0)) hxe hcd dX1_clear_1 (by decide) ?_
  refine gp_X1_15 S hW dX1_clear_2 (fun H locs hW => ?_)
  refine r_vret S hr hlk (F := (cE Z A g)) (u := (up2 μ 0 22 (upd (μ 0 22) 1 (nI 0)))) hW ?_ dX1_clear_5
  rfl
set_option maxHeartbeats 4000000 in
set_option maxRecDepth 100000 in
theorem t_X1_signAt (l : Launch) {Z : ZT} (hZ : zOK Z) (A : Nat × Nat → Nat) (g : Nat → Bool) (μ : CM) (sz : Nat) (x : Int32) : XCi l yX1_signAt cX1_signAt 2 (some .int) 1 [.ref (A (0, 22)), .int x] Z (ids g) A (cE Z A g μ) sz (fun r => r = rd 12 (μ 0 24) x) := by
  refine r_met (E := (cE Z A g μ)) (by decide +kernel) (Nat.le_of_ble_eq_true rfl) ?_
  intro p e s m below meth c ls S hr hlk hnm hsz hW hl
  have hxe := S.1
  have hcd := S.2.1
  subst hsz
  have hl : lv_has ls 2 [(0, .ref (A (0, 22))), (1, .int x)] := hl
  refine lv_aload_n hxe hcd dX1_signAt_0 rfl (lv_at hl 0 rfl) ?_
  refine gf_X1_19 S hW dX1_signAt_1 ?_
  refine lv_iload_n hxe hcd dX1_signAt_4 rfl (lv_at hl 1 rfl) ?_
  refine r_calli0 (r_runSN hZ S hW (As := [.ref (A (0, 24)), .int x]) (rest := []) (t_X9_read l hZ A g μ s.heap.size (b := 0) (o := 24) (n := 12) rfl (in_r (by decide) (by decide)) x) k_X1_39 (hl.1) rfl rfl (Nat.le_of_ble_eq_true rfl) ⟨Nat.le_of_ble_eq_true rfl, Nat.le_of_ble_eq_true rfl⟩ ⟨Nat.le_of_ble_eq_true rfl, Nat.le_of_ble_eq_true rfl⟩ dX1_signAt_5) hW (fun r5 H locs hp5 hW => ?_)
  have hp5 := hp5.symm
  subst hp5
  refine r_iret0 S hr hlk hW ?_ dX1_signAt_8
  rfl
set_option maxHeartbeats 4000000 in
set_option maxRecDepth 100000 in
theorem t_X1_numberAt (l : Launch) {Z : ZT} (hZ : zOK Z) (A : Nat × Nat → Nat) (g : Nat → Bool) (μ : CM) (sz : Nat) {j i : Nat} : XCi l yX1_numberAt cX1_numberAt 3 (some .int) 1 [.ref (A (0, 22)), .int (nI j), .int (nI i)] Z (ids g) A (cE Z A g μ) sz (fun r => r = rd 48 (μ 0 25) (nI (j * 4 + i))) := by
  refine r_met (E := (cE Z A g μ)) (by decide +kernel) (Nat.le_of_ble_eq_true rfl) ?_
  intro p e s m below meth c ls S hr hlk hnm hsz hW hl
  have hxe := S.1
  have hcd := S.2.1
  subst hsz
  have hl : lv_has ls 3 [(0, .ref (A (0, 22))), (1, .int (nI j)), (2, .int (nI i))] := hl
  refine lv_aload_n hxe hcd dX1_numberAt_0 rfl (lv_at hl 0 rfl) ?_
  refine gf_X1_22 S hW dX1_numberAt_1 ?_
  refine lv_iload_n hxe hcd dX1_numberAt_4 rfl (lv_at hl 1 rfl) ?_
  refine lv_iconst (v := (nI 4)) hxe hcd dX1_numberAt_5 (by decide) ?_
  refine n_imul S (a := j) (b := 4) dX1_numberAt_6 ?_
  refine lv_iload_n hxe hcd dX1_numberAt_7 rfl (lv_at hl 2 rfl) ?_
  refine n_iadd S (a := (j * 4)) (b := i) dX1_numberAt_8 ?_
  refine r_calli0 (r_runSN hZ S hW (As := [.ref (A (0, 25)), .int (nI ((j * 4) + i))]) (rest := []) (t_X9_read l hZ A g μ s.heap.size (b := 0) (o := 25) (n := 48) rfl (in_r (by decide) (by decide)) (nI ((j * 4) + i))) k_X1_39 (hl.1) rfl rfl (Nat.le_of_ble_eq_true rfl) ⟨Nat.le_of_ble_eq_true rfl, Nat.le_of_ble_eq_true rfl⟩ ⟨Nat.le_of_ble_eq_true rfl, Nat.le_of_ble_eq_true rfl⟩ dX1_numberAt_9) hW (fun r9 H locs hp9 hW => ?_)
  have hp9 := hp9.symm
  subst hp9
  refine r_iret0 S hr hlk hW ?_ dX1_numberAt_12
  rfl
set_option maxHeartbeats 4000000 in
set_option maxRecDepth 100000 in
theorem t_X1_faultOfCharacter (l : Launch) {Z : ZT} (hZ : zOK Z) (A : Nat × Nat → Nat) (g : Nat → Bool) (μ : CM) (sz : Nat) {tn : Nat} (htn : μ 0 22 1 = nI tn) (htn60 : tn ≤ 60) (x : Int32) : XCi l yX1_faultOfCharacter cX1_faultOfCharacter 2 (some .int) 1 [.ref (A (0, 22)), .int x] Z (ids g) A (cE Z A g μ) sz (fun r => (¬ (nI 32 ≤ x ∧ x ≤ nI 126) ∧ r = nI 2) ∨ ((nI 32 ≤ x ∧ x ≤ nI 126) ∧ tn < 60 ∧ r = nI 0) ∨ ((nI 32 ≤ x ∧ x ≤ nI 126) ∧ ¬ tn < 60 ∧ r = nI 3)) := by
  refine r_met (E := (cE Z A g μ)) (by decide +kernel) (Nat.le_of_ble_eq_true rfl) ?_
  intro p e s m below meth c ls S hr hlk hnm hsz hW hl
  have hxe := S.1
  have hcd := S.2.1
  subst hsz
  have hl : lv_has ls 2 [(0, .ref (A (0, 22))), (1, .int x)] := hl
  refine lv_iload_n hxe hcd dX1_faultOfCharacter_0 rfl (lv_at hl 1 rfl) ?_
  refine lv_bipush (v := (nI 32)) hxe hcd dX1_faultOfCharacter_1 (by decide) ?_
  refine lv_bipush (v := (nI 126)) hxe hcd dX1_faultOfCharacter_3 (by decide) ?_
  refine r_calli0 (r_runSN hZ S hW (As := [.int x, .int (nI 32), .int (nI 126)]) (rest := []) (t_X9_isWithin l hZ (ids g) A (cE Z A g μ) s.heap.size x (nI 32) (nI 126)) k_X1_31 (hl.1) rfl rfl (Nat.le_of_ble_eq_true rfl) ⟨Nat.le_of_ble_eq_true rfl, Nat.le_of_ble_eq_true rfl⟩ ⟨Nat.le_of_ble_eq_true rfl, Nat.le_of_ble_eq_true rfl⟩ dX1_faultOfCharacter_5) hW (fun r5 H locs hp5 hW => ?_)
  rcases hp5 with ⟨hp50, hp5⟩ | ⟨hp50, hp5⟩
  · subst hp50
    refine lv_if_ne (tgt := 13) hxe hcd dX1_faultOfCharacter_8 (by decide) (fun _ => ?_) (fun h => absurd h (by decide))
    refine lv_aload_n hxe hcd dX1_faultOfCharacter_13 rfl (lv_at hl 0 rfl) ?_
    refine gf_X1_15 S hW dX1_faultOfCharacter_14 ?_
    refine r_as (y := (nI tn)) (htn) ?_
    refine lv_bipush (v := (nI 60)) hxe hcd dX1_faultOfCharacter_17 (by decide) ?_
    refine n_ge S (a := tn) (b := 60) (by omega) (by omega) dX1_faultOfCharacter_19 (tgt := 26) (by decide) (fun c19 => ?_) (fun c19 => ?_)
    · refine lv_iconst (v := (nI 3)) hxe hcd dX1_faultOfCharacter_26 (by decide) ?_
      refine r_iret0 S hr hlk hW ?_ dX1_faultOfCharacter_27
      first | exact Or.inl ⟨hp5, rfl⟩ | exact Or.inr (Or.inl ⟨hp5, by omega, rfl⟩) | exact Or.inr (Or.inr ⟨hp5, by omega, rfl⟩)
    · refine lv_iconst (v := (nI 0)) hxe hcd dX1_faultOfCharacter_22 (by decide) ?_
      refine lv_goto (tgt := 27) hxe hcd dX1_faultOfCharacter_23 (by decide) ?_
      refine r_iret0 S hr hlk hW ?_ dX1_faultOfCharacter_27
      first | exact Or.inl ⟨hp5, rfl⟩ | exact Or.inr (Or.inl ⟨hp5, by omega, rfl⟩) | exact Or.inr (Or.inr ⟨hp5, by omega, rfl⟩)
  · subst hp50
    refine lv_if_ne (tgt := 13) hxe hcd dX1_faultOfCharacter_8 (by decide) (fun h => absurd h (by decide)) (fun _ => ?_)
    refine lv_iconst (v := (nI 2)) hxe hcd dX1_faultOfCharacter_11 (by decide) ?_
    refine r_iret0 S hr hlk hW ?_ dX1_faultOfCharacter_12
    first | exact Or.inl ⟨hp5, rfl⟩ | exact Or.inr (Or.inl ⟨hp5, by omega, rfl⟩) | exact Or.inr (Or.inr ⟨hp5, by omega, rfl⟩)
set_option maxHeartbeats 4000000 in
set_option maxRecDepth 100000 in
theorem t_X1_putCharacter (l : Launch) {Z : ZT} (hZ : zOK Z) (A : Nat × Nat → Nat) (g : Nat → Bool) (μ : CM) (sz : Nat) {tn : Nat} (htn : μ 0 22 1 = nI tn) (htn60 : tn < 60) (x : Int32) : XMi l yX1_putCharacter cX1_putCharacter 2 (some .int) 1 [.ref (A (0, 22)), .int x] Z (ids g) A (cE Z A g) μ sz (fun r u => r = nI (tn + 1) ∧ u = up2 (up2 μ 0 23 (upd (μ 0 23) tn x)) 0 22 (upd (μ 0 22) 1 (nI (tn + 1)))) := by
  refine r_met (E := (cE Z A g μ)) (by decide +kernel) (Nat.le_of_ble_eq_true rfl) ?_
  intro p e s m below meth c ls S hr hlk hnm hsz hW hl
  have hxe := S.1
  have hcd := S.2.1
  subst hsz
  have hl : lv_has ls 2 [(0, .ref (A (0, 22))), (1, .int x)] := hl
  refine lv_aload_n hxe hcd dX1_putCharacter_0 rfl (lv_at hl 0 rfl) ?_
  refine gf_X1_9 S hW dX1_putCharacter_1 ?_
  refine lv_aload_n hxe hcd dX1_putCharacter_4 rfl (lv_at hl 0 rfl) ?_
  refine gf_X1_15 S hW dX1_putCharacter_5 ?_
  refine r_as (y := (nI tn)) (htn) ?_
  refine lv_iload_n hxe hcd dX1_putCharacter_8 rfl (lv_at hl 1 rfl) ?_
  refine r_callv (F := (cE Z A g)) (r_runSN hZ S hW (As := [.ref (A (0, 23)), .int (nI tn), .int x]) (rest := []) (t_X9_write l hZ A g μ s.heap.size (b := 0) (o := 23) (n := 60) rfl (in_r (by decide) (by decide)) (nI tn) x) k_X1_35 (hl.1) rfl rfl (Nat.le_of_ble_eq_true rfl) ⟨Nat.le_of_ble_eq_true rfl, Nat.le_of_ble_eq_true rfl⟩ ⟨Nat.le_of_ble_eq_true rfl, Nat.le_of_ble_eq_true rfl⟩ dX1_putCharacter_9) hW (fun u9 H locs hp9 hW => ?_)
  have hp9 := hp9.symm
  subst hp9
  refine lv_aload_n hxe hcd dX1_putCharacter_12 rfl (lv_at hl 0 rfl) ?_
  refine lv_dup hxe hcd dX1_putCharacter_13 rfl ?_
  refine gf_X1_15 S hW dX1_putCharacter_14 ?_
  refine r_as (y := (nI tn)) (by rw [up2_o (o2 := 22) (o := 23) (by decide), htn]) ?_
  refine lv_iconst (v := (nI 1)) hxe hcd dX1_putCharacter_17 (by decide) ?_
  refine n_iadd S (a := tn) (b := 1) dX1_putCharacter_18 ?_
  refine gp_X1_15 S hW dX1_putCharacter_19 (fun H locs hW => ?_)
  refine lv_aload_n hxe hcd dX1_putCharacter_22 rfl (lv_at hl 0 rfl) ?_
  refine gf_X1_15 S hW dX1_putCharacter_23 ?_
  refine r_as (y := (nI (tn + 1))) (by rw [up2_s, upd_s]) ?_
  refine r_iret S hr hlk (F := (cE Z A g)) (u := (up2 (up2 μ 0 23 (wr 60 (μ 0 23) (nI tn) x)) 0 22 (upd ((up2 μ 0 23 (wr 60 (μ 0 23) (nI tn) x)) 0 22) 1 (nI (tn + 1))))) hW ?_ dX1_putCharacter_26
  refine ⟨rfl, ?_⟩
  rw [up2_o (o2 := 22) (o := 23) (by decide), wr_in (n := 60) (k := tn) _ _ htn60 (by decide)]
set_option maxHeartbeats 4000000 in
set_option maxRecDepth 100000 in
theorem t_X1_characterAt (l : Launch) {Z : ZT} (hZ : zOK Z) (A : Nat × Nat → Nat) (g : Nat → Bool) (μ : CM) (sz : Nat) {n : Nat} (hen : μ 0 22 1 = nI n) (hn60 : n ≤ 60) (t : Nat → Nat) (htx : ∀ j, j < n → μ 0 23 j = nI (t j) ∧ t j < 128) {i : Nat} (hi : i < 2 ^ 20) : XCi l yX1_characterAt cX1_characterAt 2 (some .int) 1 [.ref (A (0, 22)), .int (nI i)] Z (ids g) A (cE Z A g μ) sz (fun r => r = chT t n i) := by
  refine r_met (E := (cE Z A g μ)) (by decide +kernel) (Nat.le_of_ble_eq_true rfl) ?_
  intro p e s m below meth c ls S hr hlk hnm hsz hW hl
  have hxe := S.1
  have hcd := S.2.1
  subst hsz
  have hl : lv_has ls 2 [(0, .ref (A (0, 22))), (1, .int (nI i))] := hl
  refine lv_iload_n hxe hcd dX1_characterAt_0 rfl (lv_at hl 1 rfl) ?_
  refine lv_aload_n hxe hcd dX1_characterAt_1 rfl (lv_at hl 0 rfl) ?_
  refine gf_X1_15 S hW dX1_characterAt_2 ?_
  refine r_as (y := (nI n)) (hen) ?_
  refine n_ge S (a := i) (b := n) (by omega) (by omega) dX1_characterAt_5 (tgt := 19) (by decide) (fun c5 => ?_) (fun c5 => ?_)
  · refine lv_iconst (v := (-1)) hxe hcd dX1_characterAt_19 (by decide) ?_
    refine r_iret0 S hr hlk hW ?_ dX1_characterAt_20
    rw [chT, if_neg (by omega)]
  · refine lv_aload_n hxe hcd dX1_characterAt_8 rfl (lv_at hl 0 rfl) ?_
    refine gf_X1_9 S hW dX1_characterAt_9 ?_
    refine lv_iload_n hxe hcd dX1_characterAt_12 rfl (lv_at hl 1 rfl) ?_
    refine r_calli0 (r_runSN hZ S hW (As := [.ref (A (0, 23)), .int (nI i)]) (rest := []) (t_X9_read l hZ A g μ s.heap.size (b := 0) (o := 23) (n := 60) rfl (in_r (by decide) (by decide)) (nI i)) k_X1_39 (hl.1) rfl rfl (Nat.le_of_ble_eq_true rfl) ⟨Nat.le_of_ble_eq_true rfl, Nat.le_of_ble_eq_true rfl⟩ ⟨Nat.le_of_ble_eq_true rfl, Nat.le_of_ble_eq_true rfl⟩ dX1_characterAt_13) hW (fun r13 H locs hp13 hW => ?_)
    have hp13 := hp13.symm
    subst hp13
    refine r_as (y := (nI (t i))) (by rw [rd_in (n := 60) (k := i) _ (by omega) (by decide), (htx i (by omega)).1]) ?_
    refine lv_goto (tgt := 20) hxe hcd dX1_characterAt_16 (by decide) ?_
    refine r_iret0 S hr hlk hW ?_ dX1_characterAt_20
    rw [chT, if_pos (by omega)]
