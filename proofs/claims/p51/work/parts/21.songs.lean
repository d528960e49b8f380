set_option maxHeartbeats 4000000 in
set_option maxRecDepth 100000 in
theorem t_X5_faultOfSong (l : Launch) {Z : ZT} (hZ : zOK Z) {α : Type} (L : List α) (A : α → Nat) (E : α → va_E) (sz : Nat) (x : Int32) : XCi l yX5_faultOfSong cX5_faultOfSong 1 (some .int) 1 [.int x] Z L A E sz (fun r => (r = nI 0 ∧ IX x 4) ∨ (r = nI 1 ∧ ¬ IX x 4)) := by
  refine r_met (E := E) (by decide +kernel) (Nat.le_of_ble_eq_true rfl) ?_
  intro p e s m below meth c ls S hr hlk hnm hsz hW hl
  have hxe := S.1
  have hcd := S.2.1
  subst hsz
  have hl : lv_has ls 1 [(0, .int x)] := hl
  refine lv_iload_n hxe hcd dX5_faultOfSong_0 rfl (lv_at hl 0 rfl) ?_
  refine lv_iconst (v := (nI 0)) hxe hcd dX5_faultOfSong_1 (by decide) ?_
  refine lv_iconst (v := (nI 3)) hxe hcd dX5_faultOfSong_2 (by decide) ?_
  refine r_calli0 (r_runSN hZ S hW (As := [.int x, .int (nI 0), .int (nI 3)]) (rest := []) (t_X9_isWithin l hZ L A E s.heap.size x (nI 0) (nI 3)) k_X5_36 (hl.1) rfl rfl (Nat.le_of_ble_eq_true rfl) ⟨Nat.le_of_ble_eq_true rfl, Nat.le_of_ble_eq_true rfl⟩ ⟨Nat.le_of_ble_eq_true rfl, Nat.le_of_ble_eq_true rfl⟩ dX5_faultOfSong_3) hW (fun r3 H locs hp3 hW => ?_)
  rcases hp3 with ⟨hp30, hp3⟩ | ⟨hp30, hp3⟩
  · subst hp30
    refine lv_if_eq (tgt := 13) hxe hcd dX5_faultOfSong_6 (by decide) (fun h => absurd h (by decide)) (fun _ => ?_)
    refine lv_iconst (v := (nI 0)) hxe hcd dX5_faultOfSong_9 (by decide) ?_
    refine lv_goto (tgt := 14) hxe hcd dX5_faultOfSong_10 (by decide) ?_
    refine r_iret0 S hr hlk hW ?_ dX5_faultOfSong_14
    first | exact Or.inl ⟨rfl, (IX_le (n := 3) (by decide)).mp hp3⟩ | exact Or.inr ⟨rfl, fun h => hp3 ((IX_le (n := 3) (by decide)).mpr h)⟩
  · subst hp30
    refine lv_if_eq (tgt := 13) hxe hcd dX5_faultOfSong_6 (by decide) (fun _ => ?_) (fun h => absurd (by decide) h)
    refine lv_iconst (v := (nI 1)) hxe hcd dX5_faultOfSong_13 (by decide) ?_
    refine r_iret0 S hr hlk hW ?_ dX5_faultOfSong_14
    first | exact Or.inl ⟨rfl, (IX_le (n := 3) (by decide)).mp hp3⟩ | exact Or.inr ⟨rfl, fun h => hp3 ((IX_le (n := 3) (by decide)).mpr h)⟩
set_option maxHeartbeats 4000000 in
set_option maxRecDepth 100000 in
theorem t_X5_framesOf (l : Launch) {Z : ZT} (hZ : zOK Z) (A : Nat × Nat → Nat) (g : Nat → Bool) (μ : CM) (sz : Nat) {b : Nat} (hb : sB g b) {q n : Nat} (hq : q < 4) (hn : μ b 7 q = nI n) (h160 : n ≤ 160) : XCi l yX5_framesOf cX5_framesOf 2 (some .int) 2 [.ref (A (b, 4)), .int (nI q)] Z (ids g) A (cE Z A g μ) sz (fun r => r = nI ((n + 8 - 1) / 8)) := by
  refine r_met (E := (cE Z A g μ)) (by decide +kernel) (Nat.le_of_ble_eq_true rfl) ?_
  intro p e s m below meth c ls S hr hlk hnm hsz hW hl
  have hxe := S.1
  have hcd := S.2.1
  subst hsz
  have hl : lv_has ls 2 [(0, .ref (A (b, 4))), (1, .int (nI q))] := hl
  refine lv_aload_n hxe hcd dX5_framesOf_0 rfl (lv_at hl 0 rfl) ?_
  refine lv_iload_n hxe hcd dX5_framesOf_1 rfl (lv_at hl 1 rfl) ?_
  refine r_calli0 (r_runV hZ S hW (As := [.int (nI q)]) (rest := []) (t_X5_samplesOf l hZ A g μ s.heap.size hb (nI q)) k_X5_32 (r_recv hW (x := (b, 4)) (in_s hb (by decide)) rfl rfl) (hl.1) rfl rfl (Nat.le_of_ble_eq_true rfl) ⟨Nat.le_of_ble_eq_true rfl, Nat.le_of_ble_eq_true rfl⟩ ⟨Nat.le_of_ble_eq_true rfl, Nat.le_of_ble_eq_true rfl⟩ dX5_framesOf_2) hW (fun r2 H locs hp2 hW => ?_)
  have hp2 := hp2.symm
  subst hp2
  refine r_as (y := (nI n)) (by rw [rd_in (n := 4) (k := q) _ hq (by decide), hn]) ?_
  refine lv_bipush (v := (nI 8)) hxe hcd dX5_framesOf_5 (by decide) ?_
  refine n_iadd S (a := n) (b := 8) dX5_framesOf_7 ?_
  refine lv_iconst (v := (nI 1)) hxe hcd dX5_framesOf_8 (by decide) ?_
  refine n_isub S (a := (n + 8)) (b := 1) (by omega) dX5_framesOf_9 ?_
  refine lv_bipush (v := (nI 8)) hxe hcd dX5_framesOf_10 (by decide) ?_
  refine n_idiv S (a := ((n + 8) - 1)) (b := 8) (by omega) (by omega) (by omega) dX5_framesOf_12 ?_
  refine r_iret0 S hr hlk hW ?_ dX5_framesOf_13
  rfl
set_option maxHeartbeats 4000000 in
set_option maxRecDepth 100000 in
theorem t_X5_hasSample (l : Launch) {Z : ZT} (hZ : zOK Z) (A : Nat × Nat → Nat) (g : Nat → Bool) (μ : CM) (sz : Nat) {b : Nat} (hb : sB g b) {q n : Nat} (hq : q < 4) (hn : μ b 7 q = nI n) (h160 : n ≤ 160) (x : Int32) : XCi l yX5_hasSample cX5_hasSample 3 (some .boolean) 2 [.ref (A (b, 4)), .int (nI q), .int x] Z (ids g) A (cE Z A g μ) sz (fun r => BP r (IX x n)) := by
  refine r_met (E := (cE Z A g μ)) (by decide +kernel) (Nat.le_of_ble_eq_true rfl) ?_
  intro p e s m below meth c ls S hr hlk hnm hsz hW hl
  have hxe := S.1
  have hcd := S.2.1
  subst hsz
  have hl : lv_has ls 3 [(0, .ref (A (b, 4))), (1, .int (nI q)), (2, .int x)] := hl
  refine lv_iload_n hxe hcd dX5_hasSample_0 rfl (lv_at hl 2 rfl) ?_
  refine lv_iconst (v := (nI 0)) hxe hcd dX5_hasSample_1 (by decide) ?_
  refine lv_aload_n hxe hcd dX5_hasSample_2 rfl (lv_at hl 0 rfl) ?_
  refine lv_iload_n hxe hcd dX5_hasSample_3 rfl (lv_at hl 1 rfl) ?_
  refine r_calli0 (r_runV hZ S hW (As := [.int (nI q)]) (rest := [.int (nI 0), .int x]) (t_X5_samplesOf l hZ A g μ s.heap.size hb (nI q)) k_X5_32 (r_recv hW (x := (b, 4)) (in_s hb (by decide)) rfl rfl) (hl.1) rfl rfl (Nat.le_of_ble_eq_true rfl) ⟨Nat.le_of_ble_eq_true rfl, Nat.le_of_ble_eq_true rfl⟩ ⟨Nat.le_of_ble_eq_true rfl, Nat.le_of_ble_eq_true rfl⟩ dX5_hasSample_4) hW (fun r4 H locs hp4 hW => ?_)
  have hp4 := hp4.symm
  subst hp4
  refine r_as (y := (nI n)) (by rw [rd_in (n := 4) (k := q) _ hq (by decide), hn]) ?_
  refine lv_iconst (v := (nI 1)) hxe hcd dX5_hasSample_7 (by decide) ?_
  refine lv_isub hxe hcd dX5_hasSample_8 ?_
  refine r_calli0 (r_runSN hZ S hW (As := [.int x, .int (nI 0), .int ((nI n) - (nI 1))]) (rest := []) (t_X9_isWithin l hZ (ids g) A (cE Z A g μ) H.size x (nI 0) ((nI n) - (nI 1))) k_X5_36 (hl.1) rfl rfl (Nat.le_of_ble_eq_true rfl) ⟨Nat.le_of_ble_eq_true rfl, Nat.le_of_ble_eq_true rfl⟩ ⟨Nat.le_of_ble_eq_true rfl, Nat.le_of_ble_eq_true rfl⟩ dX5_hasSample_9) hW (fun r9 H locs hp9 hW => ?_)
  rcases hp9 with ⟨hp90, hp9⟩ | ⟨hp90, hp9⟩
  · subst hp90
    refine r_zret0 S hr hlk hW (by decide +kernel) ?_ dX5_hasSample_12
    first | exact BP_t ((IX_sub (by omega)).mp hp9) | exact BP_f (fun h => hp9 ((IX_sub (by omega)).mpr h))
  · subst hp90
    refine r_zret0 S hr hlk hW (by decide +kernel) ?_ dX5_hasSample_12
    first | exact BP_t ((IX_sub (by omega)).mp hp9) | exact BP_f (fun h => hp9 ((IX_sub (by omega)).mpr h))
set_option maxHeartbeats 4000000 in
set_option maxRecDepth 100000 in
theorem t_X5_rawAt (l : Launch) {Z : ZT} (hZ : zOK Z) (A : Nat × Nat → Nat) (g : Nat → Bool) (μ : CM) (sz : Nat) {b : Nat} (hb : sB g b) {q i : Nat} (hq : q < 4) (hi : i < 160) : XCi l yX5_rawAt cX5_rawAt 3 (some .int) 1 [.ref (A (b, 4)), .int (nI q), .int (nI i)] Z (ids g) A (cE Z A g μ) sz (fun r => r = μ b 5 (q * 160 + i)) := by
  refine r_met (E := (cE Z A g μ)) (by decide +kernel) (Nat.le_of_ble_eq_true rfl) ?_
  intro p e s m below meth c ls S hr hlk hnm hsz hW hl
  have hxe := S.1
  have hcd := S.2.1
  subst hsz
  have hl : lv_has ls 3 [(0, .ref (A (b, 4))), (1, .int (nI q)), (2, .int (nI i))] := hl
  refine lv_aload_n hxe hcd dX5_rawAt_0 rfl (lv_at hl 0 rfl) ?_
  refine gf_X5_9 S hW hb dX5_rawAt_1 ?_
  refine lv_iload_n hxe hcd dX5_rawAt_4 rfl (lv_at hl 1 rfl) ?_
  refine lv_sipush (v := (nI 160)) hxe hcd dX5_rawAt_5 (by decide) ?_
  refine n_imul S (a := q) (b := 160) dX5_rawAt_8 ?_
  refine lv_iload_n hxe hcd dX5_rawAt_9 rfl (lv_at hl 2 rfl) ?_
  refine n_iadd S (a := (q * 160)) (b := i) dX5_rawAt_10 ?_
  refine r_calli0 (r_runSN hZ S hW (As := [.ref (A (b, 5)), .int (nI ((q * 160) + i))]) (rest := []) (t_X9_read l hZ A g μ s.heap.size (b := b) (o := 5) (n := 640) rfl (in_s hb (by decide)) (nI ((q * 160) + i))) k_X5_28 (hl.1) rfl rfl (Nat.le_of_ble_eq_true rfl) ⟨Nat.le_of_ble_eq_true rfl, Nat.le_of_ble_eq_true rfl⟩ ⟨Nat.le_of_ble_eq_true rfl, Nat.le_of_ble_eq_true rfl⟩ dX5_rawAt_11) hW (fun r11 H locs hp11 hW => ?_)
  have hp11 := hp11.symm
  subst hp11
  refine r_iret0 S hr hlk hW ?_ dX5_rawAt_14
  rw [rd_in (n := 640) (k := q * 160 + i) _ (by omega) (by decide)]
set_option maxHeartbeats 4000000 in
set_option maxRecDepth 100000 in
theorem t_X5_faultOfPlaying (l : Launch) {Z : ZT} (hZ : zOK Z) (A : Nat × Nat → Nat) (g : Nat → Bool) (μ : CM) (sz : Nat) {b : Nat} (hb : sB g b) (nn : Nat → Nat) (hnn : ∀ q, q < 4 → μ b 8 q = nI (nn q) ∧ nn q ≤ 160) (x : Int32) : XCi l yX5_faultOfPlaying cX5_faultOfPlaying 2 (some .int) 2 [.ref (A (b, 4)), .int x] Z (ids g) A (cE Z A g μ) sz (fun r => (r = nI 0 ∧ ∃ q, q < 4 ∧ x = nI q ∧ 0 < nn q) ∨ (r = nI 1 ∧ ¬ IX x 4) ∨ (r = nI 4 ∧ ∃ q, q < 4 ∧ x = nI q ∧ nn q = 0)) := by
  refine r_met (E := (cE Z A g μ)) (by decide +kernel) (Nat.le_of_ble_eq_true rfl) ?_
  intro p e s m below meth c ls S hr hlk hnm hsz hW hl
  have hxe := S.1
  have hcd := S.2.1
  subst hsz
  have hl : lv_has ls 2 [(0, .ref (A (b, 4))), (1, .int x)] := hl
  refine lv_iload_n hxe hcd dX5_faultOfPlaying_0 rfl (lv_at hl 1 rfl) ?_
  refine r_calli0 (r_runS hZ S hW (As := [.int x]) (rest := []) (t_X5_faultOfSong l hZ (ids g) A (cE Z A g μ) s.heap.size x) k_X5_40 (hl.1) rfl rfl (Nat.le_of_ble_eq_true rfl) ⟨Nat.le_of_ble_eq_true rfl, Nat.le_of_ble_eq_true rfl⟩ ⟨Nat.le_of_ble_eq_true rfl, Nat.le_of_ble_eq_true rfl⟩ dX5_faultOfPlaying_1) hW (fun r1 H locs hp1 hW => ?_)
  rcases hp1 with ⟨rfl, hp1⟩ | ⟨rfl, hp1⟩
  · refine lv_if_eq (tgt := 9) hxe hcd dX5_faultOfPlaying_4 (by decide) (fun _ => ?_) (fun h => absurd (by decide) h)
    obtain ⟨q, hq, rfl⟩ := hp1
    refine lv_aload_n hxe hcd dX5_faultOfPlaying_9 rfl (lv_at hl 0 rfl) ?_
    refine lv_iload_n hxe hcd dX5_faultOfPlaying_10 rfl (lv_at hl 1 rfl) ?_
    refine r_calli0 (r_runV hZ S hW (As := [.int (nI q)]) (rest := []) (t_X5_notesOf l hZ A g μ H.size hb (nI q)) k_X5_43 (r_recv hW (x := (b, 4)) (in_s hb (by decide)) rfl rfl) (hl.1) rfl rfl (Nat.le_of_ble_eq_true rfl) ⟨Nat.le_of_ble_eq_true rfl, Nat.le_of_ble_eq_true rfl⟩ ⟨Nat.le_of_ble_eq_true rfl, Nat.le_of_ble_eq_true rfl⟩ dX5_faultOfPlaying_11) hW (fun r11 H locs hp11 hW => ?_)
    have hp11 := hp11.symm
    subst hp11
    refine r_as (y := (nI (nn q))) (by rw [rd_in (n := 4) (k := q) _ hq (by decide), (hnn q hq).1]) ?_
    refine lv_if_le (tgt := 21) hxe hcd dX5_faultOfPlaying_14 (by decide) (fun c14 => ?_) (fun c14 => ?_)
    · refine lv_iconst (v := (nI 4)) hxe hcd dX5_faultOfPlaying_21 (by decide) ?_
      refine r_iret0 S hr hlk hW ?_ dX5_faultOfPlaying_22
      exact Or.inr (Or.inr ⟨rfl, q, hq, rfl, by
          have := (hnn q hq).2
          rcases Nat.eq_zero_or_pos (nn q) with e | e
          · exact e
          · exact absurd c14 (nI_nle e (by omega))⟩)
    · refine lv_iconst (v := (nI 0)) hxe hcd dX5_faultOfPlaying_17 (by decide) ?_
      refine lv_goto (tgt := 22) hxe hcd dX5_faultOfPlaying_18 (by decide) ?_
      refine r_iret0 S hr hlk hW ?_ dX5_faultOfPlaying_22
      exact Or.inl ⟨rfl, q, hq, rfl, by
          have := (hnn q hq).2
          have c := c14
          have z := nI_0
          rcases Nat.eq_zero_or_pos (nn q) with e | e
          · rw [e] at c; exact absurd (by decide) c
          · exact e⟩
  · refine lv_if_eq (tgt := 9) hxe hcd dX5_faultOfPlaying_4 (by decide) (fun h => absurd h (by decide)) (fun _ => ?_)
    refine lv_iconst (v := (nI 1)) hxe hcd dX5_faultOfPlaying_7 (by decide) ?_
    refine r_iret0 S hr hlk hW ?_ dX5_faultOfPlaying_8
    exact Or.inr (Or.inl ⟨rfl, hp1⟩)
set_option maxHeartbeats 4000000 in
set_option maxRecDepth 100000 in
theorem t_X5_faultOfSample (l : Launch) {Z : ZT} (hZ : zOK Z) (A : Nat × Nat → Nat) (g : Nat → Bool) (μ : CM) (sz : Nat) {b : Nat} (hb : sB g b) (ln : Nat → Nat) (hln : ∀ q, q < 4 → μ b 7 q = nI (ln q) ∧ ln q ≤ 160) (x y : Int32) : XCi l yX5_faultOfSample cX5_faultOfSample 3 (some .int) 3 [.ref (A (b, 4)), .int x, .int y] Z (ids g) A (cE Z A g μ) sz (fun r => (r = nI 0 ∧ ∃ q, q < 4 ∧ x = nI q ∧ IX y (ln q)) ∨ (r = nI 1 ∧ ¬ IX x 4) ∨ (r = nI 4 ∧ ∃ q, q < 4 ∧ x = nI q ∧ ¬ IX y (ln q))) := by
  refine r_met (E := (cE Z A g μ)) (by decide +kernel) (Nat.le_of_ble_eq_true rfl) ?_
  intro p e s m below meth c ls S hr hlk hnm hsz hW hl
  have hxe := S.1
  have hcd := S.2.1
  subst hsz
  have hl : lv_has ls 3 [(0, .ref (A (b, 4))), (1, .int x), (2, .int y)] := hl
  refine lv_iload_n hxe hcd dX5_faultOfSample_0 rfl (lv_at hl 1 rfl) ?_
  refine r_calli0 (r_runS hZ S hW (As := [.int x]) (rest := []) (t_X5_faultOfSong l hZ (ids g) A (cE Z A g μ) s.heap.size x) k_X5_40 (hl.1) rfl rfl (Nat.le_of_ble_eq_true rfl) ⟨Nat.le_of_ble_eq_true rfl, Nat.le_of_ble_eq_true rfl⟩ ⟨Nat.le_of_ble_eq_true rfl, Nat.le_of_ble_eq_true rfl⟩ dX5_faultOfSample_1) hW (fun r1 H locs hp1 hW => ?_)
  rcases hp1 with ⟨rfl, hp1⟩ | ⟨rfl, hp1⟩
  · refine lv_if_eq (tgt := 9) hxe hcd dX5_faultOfSample_4 (by decide) (fun _ => ?_) (fun h => absurd (by decide) h)
    obtain ⟨q, hq, rfl⟩ := hp1
    refine lv_aload_n hxe hcd dX5_faultOfSample_9 rfl (lv_at hl 0 rfl) ?_
    refine lv_iload_n hxe hcd dX5_faultOfSample_10 rfl (lv_at hl 1 rfl) ?_
    refine lv_iload_n hxe hcd dX5_faultOfSample_11 rfl (lv_at hl 2 rfl) ?_
    refine r_calli0 (r_runV hZ S hW (As := [.int (nI q), .int y]) (rest := []) (t_X5_hasSample l hZ A g μ H.size hb (q := q) (by omega) (hln _ (by omega)).1 (hln _ (by omega)).2 y) k_X5_46 (r_recv hW (x := (b, 4)) (in_s hb (by decide)) rfl rfl) (hl.1) rfl rfl (Nat.le_of_ble_eq_true rfl) ⟨Nat.le_of_ble_eq_true rfl, Nat.le_of_ble_eq_true rfl⟩ ⟨Nat.le_of_ble_eq_true rfl, Nat.le_of_ble_eq_true rfl⟩ dX5_faultOfSample_12) hW (fun r12 H locs hp12 hW => ?_)
    rcases hp12 with ⟨hp120, hp12⟩ | ⟨hp120, hp12⟩
    · subst hp120
      refine lv_if_eq (tgt := 22) hxe hcd dX5_faultOfSample_15 (by decide) (fun h => absurd h (by decide)) (fun _ => ?_)
      refine lv_iconst (v := (nI 0)) hxe hcd dX5_faultOfSample_18 (by decide) ?_
      refine lv_goto (tgt := 23) hxe hcd dX5_faultOfSample_19 (by decide) ?_
      refine r_iret0 S hr hlk hW ?_ dX5_faultOfSample_23
      first | exact Or.inr (Or.inl ⟨rfl, hp1⟩) | exact Or.inl ⟨rfl, q, hq, rfl, hp12⟩ | exact Or.inr (Or.inr ⟨rfl, q, hq, rfl, hp12⟩)
    · subst hp120
      refine lv_if_eq (tgt := 22) hxe hcd dX5_faultOfSample_15 (by decide) (fun _ => ?_) (fun h => absurd (by decide) h)
      refine lv_iconst (v := (nI 4)) hxe hcd dX5_faultOfSample_22 (by decide) ?_
      refine r_iret0 S hr hlk hW ?_ dX5_faultOfSample_23
      first | exact Or.inr (Or.inl ⟨rfl, hp1⟩) | exact Or.inl ⟨rfl, q, hq, rfl, hp12⟩ | exact Or.inr (Or.inr ⟨rfl, q, hq, rfl, hp12⟩)
  · refine lv_if_eq (tgt := 9) hxe hcd dX5_faultOfSample_4 (by decide) (fun h => absurd h (by decide)) (fun _ => ?_)
    refine lv_iconst (v := (nI 1)) hxe hcd dX5_faultOfSample_7 (by decide) ?_
    refine r_iret0 S hr hlk hW ?_ dX5_faultOfSample_8
    first | exact Or.inr (Or.inl ⟨rfl, hp1⟩) | exact Or.inl ⟨rfl, q, hq, rfl, hp12⟩ | exact Or.inr (Or.inr ⟨rfl, q, hq, rfl, hp12⟩)
set_option maxHeartbeats 4000000 in
set_option maxRecDepth 100000 in
theorem t_X5_faultOfNewNote (l : Launch) {Z : ZT} (hZ : zOK Z) (A : Nat × Nat → Nat) (g : Nat → Bool) (μ : CM) (sz : Nat) {b : Nat} (hb : sB g b) (ln : Nat → Nat) (hln : ∀ q, q < 4 → μ b 7 q = nI (ln q) ∧ ln q ≤ 160) (x P am le : Int32) : XCi l yX5_faultOfNewNote cX5_faultOfNewNote 5 (some .int) 3 [.ref (A (b, 4)), .int x, .int P, .int am, .int le] Z (ids g) A (cE Z A g μ) sz (fun r => (r = nI 0 ∧ ∃ q, q < 4 ∧ x = nI q ∧ NV P am le ∧ ∃ k, 1 ≤ k ∧ k ≤ 40 ∧ le = nI k ∧ ln q + k ≤ 160) ∨ (r = nI 1 ∧ ¬ IX x 4) ∨ (r = nI 2 ∧ IX x 4 ∧ ¬ NV P am le) ∨ (r = nI 3 ∧ ∃ q, q < 4 ∧ x = nI q ∧ NV P am le ∧ ∃ k, 1 ≤ k ∧ k ≤ 40 ∧ le = nI k ∧ ¬ ln q + k ≤ 160)) := by
  refine r_met (E := (cE Z A g μ)) (by decide +kernel) (Nat.le_of_ble_eq_true rfl) ?_
  intro p e s m below meth c ls S hr hlk hnm hsz hW hl
  have hxe := S.1
  have hcd := S.2.1
  subst hsz
  have hl : lv_has ls 5 [(0, .ref (A (b, 4))), (1, .int x), (2, .int P), (3, .int am), (4, .int le)] := hl
  refine lv_iload_n hxe hcd dX5_faultOfNewNote_0 rfl (lv_at hl 1 rfl) ?_
  refine r_calli0 (r_runS hZ S hW (As := [.int x]) (rest := []) (t_X5_faultOfSong l hZ (ids g) A (cE Z A g μ) s.heap.size x) k_X5_40 (hl.1) rfl rfl (Nat.le_of_ble_eq_true rfl) ⟨Nat.le_of_ble_eq_true rfl, Nat.le_of_ble_eq_true rfl⟩ ⟨Nat.le_of_ble_eq_true rfl, Nat.le_of_ble_eq_true rfl⟩ dX5_faultOfNewNote_1) hW (fun r1 H locs hp1 hW => ?_)
  rcases hp1 with ⟨rfl, hp1⟩ | ⟨rfl, hp1⟩
  · refine lv_if_eq (tgt := 9) hxe hcd dX5_faultOfNewNote_4 (by decide) (fun _ => ?_) (fun h => absurd (by decide) h)
    refine lv_iload_n hxe hcd dX5_faultOfNewNote_9 rfl (lv_at hl 2 rfl) ?_
    refine lv_iconst (v := (nI 2)) hxe hcd dX5_faultOfNewNote_10 (by decide) ?_
    refine lv_bipush (v := (nI 20)) hxe hcd dX5_faultOfNewNote_11 (by decide) ?_
    refine r_calli0 (r_runSN hZ S hW (As := [.int P, .int (nI 2), .int (nI 20)]) (rest := []) (t_X9_isWithin l hZ (ids g) A (cE Z A g μ) H.size P (nI 2) (nI 20)) k_X5_36 (hl.1) rfl rfl (Nat.le_of_ble_eq_true rfl) ⟨Nat.le_of_ble_eq_true rfl, Nat.le_of_ble_eq_true rfl⟩ ⟨Nat.le_of_ble_eq_true rfl, Nat.le_of_ble_eq_true rfl⟩ dX5_faultOfNewNote_13) hW (fun r13 H locs hp13 hW => ?_)
    rcases hp13 with ⟨hp130, hp13⟩ | ⟨hp130, hp13⟩
    · subst hp130
      refine lv_if_eq (tgt := 41) hxe hcd dX5_faultOfNewNote_16 (by decide) (fun h => absurd h (by decide)) (fun _ => ?_)
      refine lv_iload_n hxe hcd dX5_faultOfNewNote_19 rfl (lv_at hl 3 rfl) ?_
      refine lv_iconst (v := (nI 1)) hxe hcd dX5_faultOfNewNote_20 (by decide) ?_
      refine lv_sipush (v := (nI 999)) hxe hcd dX5_faultOfNewNote_21 (by decide) ?_
      refine r_calli0 (r_runSN hZ S hW (As := [.int am, .int (nI 1), .int (nI 999)]) (rest := []) (t_X9_isWithin l hZ (ids g) A (cE Z A g μ) H.size am (nI 1) (nI 999)) k_X5_36 (hl.1) rfl rfl (Nat.le_of_ble_eq_true rfl) ⟨Nat.le_of_ble_eq_true rfl, Nat.le_of_ble_eq_true rfl⟩ ⟨Nat.le_of_ble_eq_true rfl, Nat.le_of_ble_eq_true rfl⟩ dX5_faultOfNewNote_24) hW (fun r24 H locs hp24 hW => ?_)
      rcases hp24 with ⟨hp240, hp24⟩ | ⟨hp240, hp24⟩
      · subst hp240
        refine lv_if_eq (tgt := 41) hxe hcd dX5_faultOfNewNote_27 (by decide) (fun h => absurd h (by decide)) (fun _ => ?_)
        refine lv_iload hxe hcd dX5_faultOfNewNote_30 (lv_at hl 4 rfl) ?_
        refine lv_iconst (v := (nI 1)) hxe hcd dX5_faultOfNewNote_32 (by decide) ?_
        refine lv_bipush (v := (nI 40)) hxe hcd dX5_faultOfNewNote_33 (by decide) ?_
        refine r_calli0 (r_runSN hZ S hW (As := [.int le, .int (nI 1), .int (nI 40)]) (rest := []) (t_X9_isWithin l hZ (ids g) A (cE Z A g μ) H.size le (nI 1) (nI 40)) k_X5_36 (hl.1) rfl rfl (Nat.le_of_ble_eq_true rfl) ⟨Nat.le_of_ble_eq_true rfl, Nat.le_of_ble_eq_true rfl⟩ ⟨Nat.le_of_ble_eq_true rfl, Nat.le_of_ble_eq_true rfl⟩ dX5_faultOfNewNote_35) hW (fun r35 H locs hp35 hW => ?_)
        rcases hp35 with ⟨hp350, hp35⟩ | ⟨hp350, hp35⟩
        · subst hp350
          refine lv_if_ne (tgt := 43) hxe hcd dX5_faultOfNewNote_38 (by decide) (fun _ => ?_) (fun h => absurd h (by decide))
          obtain ⟨q, hq, rfl⟩ := hp1
          have nv : NV P am le := ⟨hp13, hp24, hp35⟩
          obtain ⟨k, hk1, hk2, hk⟩ := (I_rng2 (by decide) (by decide)).mp hp35
          have h160 := (hln q hq).2
          refine lv_aload_n hxe hcd dX5_faultOfNewNote_43 rfl (lv_at hl 0 rfl) ?_
          refine lv_iload_n hxe hcd dX5_faultOfNewNote_44 rfl (lv_at hl 1 rfl) ?_
          refine r_calli0 (r_runV hZ S hW (As := [.int (nI q)]) (rest := []) (t_X5_samplesOf l hZ A g μ H.size hb (nI q)) k_X5_32 (r_recv hW (x := (b, 4)) (in_s hb (by decide)) rfl rfl) (hl.1) rfl rfl (Nat.le_of_ble_eq_true rfl) ⟨Nat.le_of_ble_eq_true rfl, Nat.le_of_ble_eq_true rfl⟩ ⟨Nat.le_of_ble_eq_true rfl, Nat.le_of_ble_eq_true rfl⟩ dX5_faultOfNewNote_45) hW (fun r45 H locs hp45 hW => ?_)
          have hp45 := hp45.symm
          subst hp45
          refine r_as (y := (nI (ln q))) (by rw [rd_in (n := 4) (k := q) _ hq (by decide), (hln q hq).1]) ?_
          refine lv_iload hxe hcd dX5_faultOfNewNote_48 (lv_at hl 4 rfl) ?_
          refine r_as hk ?_
          refine n_iadd S (a := (ln q)) (b := k) dX5_faultOfNewNote_50 ?_
          refine lv_sipush (v := (nI 160)) hxe hcd dX5_faultOfNewNote_51 (by decide) ?_
          refine n_gt S (a := ((ln q) + k)) (b := 160) (by omega) (by omega) dX5_faultOfNewNote_54 (tgt := 61) (by decide) (fun c54 => ?_) (fun c54 => ?_)
          · refine lv_iconst (v := (nI 3)) hxe hcd dX5_faultOfNewNote_61 (by decide) ?_
            refine r_iret0 S hr hlk hW ?_ dX5_faultOfNewNote_62
            first | exact Or.inr (Or.inl ⟨rfl, hp1⟩) | exact Or.inr (Or.inr (Or.inl ⟨rfl, hp1, fun h => hp13 h.1⟩)) | exact Or.inr (Or.inr (Or.inl ⟨rfl, hp1, fun h => hp24 h.2.1⟩)) | exact Or.inr (Or.inr (Or.inl ⟨rfl, hp1, fun h => hp35 h.2.2⟩)) | exact Or.inl ⟨rfl, q, hq, rfl, nv, k, hk1, hk2, hk, by omega⟩ | exact Or.inr (Or.inr (Or.inr ⟨rfl, q, hq, rfl, nv, k, hk1, hk2, hk, by omega⟩))
          · refine lv_iconst (v := (nI 0)) hxe hcd dX5_faultOfNewNote_57 (by decide) ?_
            refine lv_goto (tgt := 62) hxe hcd dX5_faultOfNewNote_58 (by decide) ?_
            refine r_iret0 S hr hlk hW ?_ dX5_faultOfNewNote_62
            first | exact Or.inr (Or.inl ⟨rfl, hp1⟩) | exact Or.inr (Or.inr (Or.inl ⟨rfl, hp1, fun h => hp13 h.1⟩)) | exact Or.inr (Or.inr (Or.inl ⟨rfl, hp1, fun h => hp24 h.2.1⟩)) | exact Or.inr (Or.inr (Or.inl ⟨rfl, hp1, fun h => hp35 h.2.2⟩)) | exact Or.inl ⟨rfl, q, hq, rfl, nv, k, hk1, hk2, hk, by omega⟩ | exact Or.inr (Or.inr (Or.inr ⟨rfl, q, hq, rfl, nv, k, hk1, hk2, hk, by omega⟩))
        · subst hp350
          refine lv_if_ne (tgt := 43) hxe hcd dX5_faultOfNewNote_38 (by decide) (fun h => absurd h (by decide)) (fun _ => ?_)
          refine lv_iconst (v := (nI 2)) hxe hcd dX5_faultOfNewNote_41 (by decide) ?_
          refine r_iret0 S hr hlk hW ?_ dX5_faultOfNewNote_42
          first | exact Or.inr (Or.inl ⟨rfl, hp1⟩) | exact Or.inr (Or.inr (Or.inl ⟨rfl, hp1, fun h => hp13 h.1⟩)) | exact Or.inr (Or.inr (Or.inl ⟨rfl, hp1, fun h => hp24 h.2.1⟩)) | exact Or.inr (Or.inr (Or.inl ⟨rfl, hp1, fun h => hp35 h.2.2⟩)) | exact Or.inl ⟨rfl, q, hq, rfl, nv, k, hk1, hk2, hk, by omega⟩ | exact Or.inr (Or.inr (Or.inr ⟨rfl, q, hq, rfl, nv, k, hk1, hk2, hk, by omega⟩))
      · subst hp240
        refine lv_if_eq (tgt := 41) hxe hcd dX5_faultOfNewNote_27 (by decide) (fun _ => ?_) (fun h => absurd (by decide) h)
        refine lv_iconst (v := (nI 2)) hxe hcd dX5_faultOfNewNote_41 (by decide) ?_
        refine r_iret0 S hr hlk hW ?_ dX5_faultOfNewNote_42
        first | exact Or.inr (Or.inl ⟨rfl, hp1⟩) | exact Or.inr (Or.inr (Or.inl ⟨rfl, hp1, fun h => hp13 h.1⟩)) | exact Or.inr (Or.inr (Or.inl ⟨rfl, hp1, fun h => hp24 h.2.1⟩)) | exact Or.inr (Or.inr (Or.inl ⟨rfl, hp1, fun h => hp35 h.2.2⟩)) | exact Or.inl ⟨rfl, q, hq, rfl, nv, k, hk1, hk2, hk, by omega⟩ | exact Or.inr (Or.inr (Or.inr ⟨rfl, q, hq, rfl, nv, k, hk1, hk2, hk, by omega⟩))
    · subst hp130
      refine lv_if_eq (tgt := 41) hxe hcd dX5_faultOfNewNote_16 (by decide) (fun _ => ?_) (fun h => absurd (by decide) h)
      refine lv_iconst (v := (nI 2)) hxe hcd dX5_faultOfNewNote_41 (by decide) ?_
      refine r_iret0 S hr hlk hW ?_ dX5_faultOfNewNote_42
      first | exact Or.inr (Or.inl ⟨rfl, hp1⟩) | exact Or.inr (Or.inr (Or.inl ⟨rfl, hp1, fun h => hp13 h.1⟩)) | exact Or.inr (Or.inr (Or.inl ⟨rfl, hp1, fun h => hp24 h.2.1⟩)) | exact Or.inr (Or.inr (Or.inl ⟨rfl, hp1, fun h => hp35 h.2.2⟩)) | exact Or.inl ⟨rfl, q, hq, rfl, nv, k, hk1, hk2, hk, by omega⟩ | exact Or.inr (Or.inr (Or.inr ⟨rfl, q, hq, rfl, nv, k, hk1, hk2, hk, by omega⟩))
  · refine lv_if_eq (tgt := 9) hxe hcd dX5_faultOfNewNote_4 (by decide) (fun h => absurd h (by decide)) (fun _ => ?_)
    refine lv_iconst (v := (nI 1)) hxe hcd dX5_faultOfNewNote_7 (by decide) ?_
    refine r_iret0 S hr hlk hW ?_ dX5_faultOfNewNote_8
    first | exact Or.inr (Or.inl ⟨rfl, hp1⟩) | exact Or.inr (Or.inr (Or.inl ⟨rfl, hp1, fun h => hp13 h.1⟩)) | exact Or.inr (Or.inr (Or.inl ⟨rfl, hp1, fun h => hp24 h.2.1⟩)) | exact Or.inr (Or.inr (Or.inl ⟨rfl, hp1, fun h => hp35 h.2.2⟩)) | exact Or.inl ⟨rfl, q, hq, rfl, nv, k, hk1, hk2, hk, by omega⟩ | exact Or.inr (Or.inr (Or.inr ⟨rfl, q, hq, rfl, nv, k, hk1, hk2, hk, by omega⟩))
set_option maxHeartbeats 4000000 in
set_option maxRecDepth 100000 in
theorem t_X5_takeNote (l : Launch) {Z : ZT} (hZ : zOK Z) (A : Nat × Nat → Nat) (g : Nat → Bool) (μ : CM) (sz : Nat) {b : Nat} (hb : sB g b) {q n k j : Nat} (hq : q < 4) (hn : μ b 7 q = nI n) (h160 : n ≤ 160) (hk : μ b 8 q = nI k) (hk1 : 1 ≤ k) (hk2 : k ≤ 160) (hj : μ b 6 (q * 160 + (k - 1)) = nI j) (hjn : j ≤ n) : XMi l yX5_takeNote cX5_takeNote 4 (some .int) 2 [.ref (A (b, 4)), .int (nI q)] Z (ids g) A (cE Z A g) μ sz (fun r u => r = nI (n - j) ∧ u = up2 (up2 μ b 8 (upd (μ b 8) q (nI (k - 1)))) b 7 (upd (μ b 7) q (nI (n - j)))) := by
  refine r_met (E := (cE Z A g μ)) (by decide +kernel) (Nat.le_of_ble_eq_true rfl) ?_
  intro p e s m below meth c ls S hr hlk hnm hsz hW hl
  have hxe := S.1
  have hcd := S.2.1
  subst hsz
  have hl : lv_has ls 4 [(0, .ref (A (b, 4))), (1, .int (nI q))] := hl
  refine lv_aload_n hxe hcd dX5_takeNote_0 rfl (lv_at hl 0 rfl) ?_
  refine lv_iload_n hxe hcd dX5_takeNote_1 rfl (lv_at hl 1 rfl) ?_
  refine r_calli0 (r_runV hZ S hW (As := [.int (nI q)]) (rest := []) (t_X5_notesOf l hZ A g μ s.heap.size hb (nI q)) k_X5_43 (r_recv hW (x := (b, 4)) (in_s hb (by decide)) rfl rfl) (hl.1) rfl rfl (Nat.le_of_ble_eq_true rfl) ⟨Nat.le_of_ble_eq_true rfl, Nat.le_of_ble_eq_true rfl⟩ ⟨Nat.le_of_ble_eq_true rfl, Nat.le_of_ble_eq_true rfl⟩ dX5_takeNote_2) hW (fun r2 H locs hp2 hW => ?_)
  have hp2 := hp2.symm
  subst hp2
  refine r_as (y := (nI k)) (by rw [rd_in (n := 4) (k := q) _ hq (by decide), hk]) ?_
  refine lv_iconst (v := (nI 1)) hxe hcd dX5_takeNote_5 (by decide) ?_
  refine n_isub S (a := k) (b := 1) (by omega) dX5_takeNote_6 ?_
  refine lv_istore_n (lv' := [(2, .int (nI (k - 1))), (0, .ref (A (b, 4))), (1, .int (nI q))]) hxe hcd dX5_takeNote_7 rfl hl (by decide) rfl (fun ls hl => ?_)
  refine lv_aload_n hxe hcd dX5_takeNote_8 rfl (lv_at hl 1 rfl) ?_
  refine gf_X5_15 S hW hb dX5_takeNote_9 ?_
  refine lv_iload_n hxe hcd dX5_takeNote_12 rfl (lv_at hl 2 rfl) ?_
  refine lv_sipush (v := (nI 160)) hxe hcd dX5_takeNote_13 (by decide) ?_
  refine n_imul S (a := q) (b := 160) dX5_takeNote_16 ?_
  refine lv_iload_n hxe hcd dX5_takeNote_17 rfl (lv_at hl 0 rfl) ?_
  refine n_iadd S (a := (q * 160)) (b := (k - 1)) dX5_takeNote_18 ?_
  refine r_calli0 (r_runSN hZ S hW (As := [.ref (A (b, 6)), .int (nI ((q * 160) + (k - 1)))]) (rest := []) (t_X9_read l hZ A g μ H.size (b := b) (o := 6) (n := 640) rfl (in_s hb (by decide)) (nI ((q * 160) + (k - 1)))) k_X5_28 (hl.1) rfl rfl (Nat.le_of_ble_eq_true rfl) ⟨Nat.le_of_ble_eq_true rfl, Nat.le_of_ble_eq_true rfl⟩ ⟨Nat.le_of_ble_eq_true rfl, Nat.le_of_ble_eq_true rfl⟩ dX5_takeNote_19) hW (fun r19 H locs hp19 hW => ?_)
  have hp19 := hp19.symm
  subst hp19
  refine r_as (y := (nI j)) (by rw [rd_in (n := 640) (k := q * 160 + (k - 1)) _ (by omega) (by decide), hj]) ?_
  refine lv_istore_n (lv' := [(3, .int (nI j)), (2, .int (nI (k - 1))), (0, .ref (A (b, 4))), (1, .int (nI q))]) hxe hcd dX5_takeNote_22 rfl hl (by decide) rfl (fun ls hl => ?_)
  refine lv_aload_n hxe hcd dX5_takeNote_23 rfl (lv_at hl 2 rfl) ?_
  refine gf_X5_21 S hW hb dX5_takeNote_24 ?_
  refine lv_iload_n hxe hcd dX5_takeNote_27 rfl (lv_at hl 3 rfl) ?_
  refine lv_iload_n hxe hcd dX5_takeNote_28 rfl (lv_at hl 1 rfl) ?_
  refine r_callv (F := (cE Z A g)) (r_runSN hZ S hW (As := [.ref (A (b, 8)), .int (nI q), .int (nI (k - 1))]) (rest := []) (t_X9_write l hZ A g μ H.size (b := b) (o := 8) (n := 4) rfl (in_s hb (by decide)) (nI q) (nI (k - 1))) k_X5_50 (hl.1) rfl rfl (Nat.le_of_ble_eq_true rfl) ⟨Nat.le_of_ble_eq_true rfl, Nat.le_of_ble_eq_true rfl⟩ ⟨Nat.le_of_ble_eq_true rfl, Nat.le_of_ble_eq_true rfl⟩ dX5_takeNote_29) hW (fun u29 H locs hp29 hW => ?_)
  have hp29 := hp29.symm
  subst hp29
  refine lv_aload_n hxe hcd dX5_takeNote_32 rfl (lv_at hl 2 rfl) ?_
  refine gf_X5_18 S hW hb dX5_takeNote_33 ?_
  refine lv_iload_n hxe hcd dX5_takeNote_36 rfl (lv_at hl 3 rfl) ?_
  refine lv_aload_n hxe hcd dX5_takeNote_37 rfl (lv_at hl 2 rfl) ?_
  refine lv_iload_n hxe hcd dX5_takeNote_38 rfl (lv_at hl 3 rfl) ?_
  refine r_calli0 (r_runV hZ S hW (As := [.int (nI q)]) (rest := [.int (nI q), .ref (A (b, 7))]) (t_X5_samplesOf l hZ A g (up2 μ b 8 (wr 4 (μ b 8) (nI q) (nI (k - 1)))) H.size hb (nI q)) k_X5_32 (r_recv hW (x := (b, 4)) (in_s hb (by decide)) rfl rfl) (hl.1) rfl rfl (Nat.le_of_ble_eq_true rfl) ⟨Nat.le_of_ble_eq_true rfl, Nat.le_of_ble_eq_true rfl⟩ ⟨Nat.le_of_ble_eq_true rfl, Nat.le_of_ble_eq_true rfl⟩ dX5_takeNote_39) hW (fun r39 H locs hp39 hW => ?_)
  have hp39 := hp39.symm
  subst hp39
  refine r_as (y := (nI n)) (by rw [up2_o (o2 := 7) (o := 8) (by decide), rd_in (n := 4) (k := q) _ hq (by decide), hn]) ?_
  refine lv_iload_n hxe hcd dX5_takeNote_42 rfl (lv_at hl 0 rfl) ?_
  refine n_isub S (a := n) (b := j) (by omega) dX5_takeNote_43 ?_
  refine r_callv (F := (cE Z A g)) (r_runSN hZ S hW (As := [.ref (A (b, 7)), .int (nI q), .int (nI (n - j))]) (rest := []) (t_X9_write l hZ A g (up2 μ b 8 (wr 4 (μ b 8) (nI q) (nI (k - 1)))) H.size (b := b) (o := 7) (n := 4) rfl (in_s hb (by decide)) (nI q) (nI (n - j))) k_X5_50 (hl.1) rfl rfl (Nat.le_of_ble_eq_true rfl) ⟨Nat.le_of_ble_eq_true rfl, Nat.le_of_ble_eq_true rfl⟩ ⟨Nat.le_of_ble_eq_true rfl, Nat.le_of_ble_eq_true rfl⟩ dX5_takeNote_44) hW (fun u44 H locs hp44 hW => ?_)
  have hp44 := hp44.symm
  subst hp44
  refine lv_aload_n hxe hcd dX5_takeNote_47 rfl (lv_at hl 2 rfl) ?_
  refine lv_iload_n hxe hcd dX5_takeNote_48 rfl (lv_at hl 3 rfl) ?_
  refine r_calli0 (r_runV hZ S hW (As := [.int (nI q)]) (rest := []) (t_X5_samplesOf l hZ A g (up2 (up2 μ b 8 (wr 4 (μ b 8) (nI q) (nI (k - 1)))) b 7 (wr 4 ((up2 μ b 8 (wr 4 (μ b 8) (nI q) (nI (k - 1)))) b 7) (nI q) (nI (n - j)))) H.size hb (nI q)) k_X5_32 (r_recv hW (x := (b, 4)) (in_s hb (by decide)) rfl rfl) (hl.1) rfl rfl (Nat.le_of_ble_eq_true rfl) ⟨Nat.le_of_ble_eq_true rfl, Nat.le_of_ble_eq_true rfl⟩ ⟨Nat.le_of_ble_eq_true rfl, Nat.le_of_ble_eq_true rfl⟩ dX5_takeNote_49) hW (fun r49 H locs hp49 hW => ?_)
  have hp49 := hp49.symm
  subst hp49
  refine r_as (y := (nI (n - j))) (by rw [up2_s, up2_o (o2 := 7) (o := 8) (by decide), wr_in (n := 4) (k := q) _ _ hq (by decide), rd_in (n := 4) (k := q) _ hq (by decide), upd_s]) ?_
  refine r_iret S hr hlk (F := (cE Z A g)) (u := (up2 (up2 μ b 8 (wr 4 (μ b 8) (nI q) (nI (k - 1)))) b 7 (wr 4 ((up2 μ b 8 (wr 4 (μ b 8) (nI q) (nI (k - 1)))) b 7) (nI q) (nI (n - j))))) hW ?_ dX5_takeNote_52
  refine ⟨rfl, ?_⟩
  rw [up2_o (o2 := 7) (o := 8) (by decide), wr_in (n := 4) (k := q) _ _ hq (by decide), wr_in (n := 4) (k := q) _ _ hq (by decide)]
set_option maxHeartbeats 4000000 in
set_option maxRecDepth 100000 in
theorem t_X5_putNote (l : Launch) {Z : ZT} (hZ : zOK Z) (A : Nat × Nat → Nat) (g : Nat → Bool) (μ : CM) (sz : Nat) {b : Nat} (hb : sB g b) {q n k j P : Nat} (am : Int32) (hq : q < 4) (hn : μ b 7 q = nI n) (hk : n + k ≤ 160) (hj : μ b 8 q = nI j) (hj2 : j < 160) (hP : 2 ≤ P) (hP2 : P ≤ 20) : XMi l yX5_putNote cX5_putNote 9 (some .int) 2 [.ref (A (b, 4)), .int (nI q), .int (nI P), .int am, .int (nI k)] Z (ids g) A (cE Z A g) μ sz (fun r u => r = nI (n + k) ∧ u = up2 (up2 (up2 (up2 μ b 5 (ntR (μ b 5) (q * 160 + n) P am k)) b 6 (upd (μ b 6) (q * 160 + j) (nI k))) b 8 (upd (μ b 8) q (nI (j + 1)))) b 7 (upd (μ b 7) q (nI (n + k)))) := by
  refine r_met (E := (cE Z A g μ)) (by decide +kernel) (Nat.le_of_ble_eq_true rfl) ?_
  intro p e s m below meth c ls S hr hlk hnm hsz hW hl
  have hxe := S.1
  have hcd := S.2.1
  subst hsz
  have hl : lv_has ls 9 [(0, .ref (A (b, 4))), (1, .int (nI q)), (2, .int (nI P)), (3, .int am), (4, .int (nI k))] := hl
  refine lv_iload_n hxe hcd dX5_putNote_0 rfl (lv_at hl 1 rfl) ?_
  refine lv_sipush (v := (nI 160)) hxe hcd dX5_putNote_1 (by decide) ?_
  refine n_imul S (a := q) (b := 160) dX5_putNote_4 ?_
  refine lv_aload_n hxe hcd dX5_putNote_5 rfl (lv_at hl 0 rfl) ?_
  refine lv_iload_n hxe hcd dX5_putNote_6 rfl (lv_at hl 1 rfl) ?_
  refine r_calli0 (r_runV hZ S hW (As := [.int (nI q)]) (rest := [.int (nI (q * 160))]) (t_X5_samplesOf l hZ A g μ s.heap.size hb (nI q)) k_X5_32 (r_recv hW (x := (b, 4)) (in_s hb (by decide)) rfl rfl) (hl.1) rfl rfl (Nat.le_of_ble_eq_true rfl) ⟨Nat.le_of_ble_eq_true rfl, Nat.le_of_ble_eq_true rfl⟩ ⟨Nat.le_of_ble_eq_true rfl, Nat.le_of_ble_eq_true rfl⟩ dX5_putNote_7) hW (fun r7 H locs hp7 hW => ?_)
  have hp7 := hp7.symm
  subst hp7
  refine r_as (y := (nI n)) (by rw [rd_in (n := 4) (k := q) _ hq (by decide), hn]) ?_
  refine n_iadd S (a := (q * 160)) (b := n) dX5_putNote_10 ?_
  refine lv_istore (lv' := [(5, .int (nI ((q * 160) + n))), (0, .ref (A (b, 4))), (1, .int (nI q)), (2, .int (nI P)), (3, .int am), (4, .int (nI k))]) hxe hcd dX5_putNote_11 hl (by decide) rfl (fun ls hl => ?_)
  refine lv_iload_n hxe hcd dX5_putNote_13 rfl (lv_at hl 3 rfl) ?_
  refine lv_iconst (v := (nI 2)) hxe hcd dX5_putNote_14 (by decide) ?_
  refine n_idiv S (a := P) (b := 2) (by omega) (by omega) (by omega) dX5_putNote_15 ?_
  refine lv_istore (lv' := [(6, .int (nI (P / 2))), (5, .int (nI ((q * 160) + n))), (0, .ref (A (b, 4))), (1, .int (nI q)), (2, .int (nI P)), (3, .int am), (4, .int (nI k))]) hxe hcd dX5_putNote_16 hl (by decide) rfl (fun ls hl => ?_)
  refine lv_iconst (v := (nI 0)) hxe hcd dX5_putNote_18 (by decide) ?_
  refine lv_istore (lv' := [(7, .int (nI 0)), (6, .int (nI (P / 2))), (5, .int (nI ((q * 160) + n))), (0, .ref (A (b, 4))), (1, .int (nI q)), (2, .int (nI P)), (3, .int am), (4, .int (nI k))]) hxe hcd dX5_putNote_19 hl (by decide) rfl (fun ls hl => ?_)
  refine lv_iconst (v := (nI 0)) hxe hcd dX5_putNote_21 (by decide) ?_
  refine lv_istore (lv' := [(8, .int (nI 0)), (7, .int (nI 0)), (6, .int (nI (P / 2))), (5, .int (nI ((q * 160) + n))), (0, .ref (A (b, 4))), (1, .int (nI q)), (2, .int (nI P)), (3, .int am), (4, .int (nI k))]) hxe hcd dX5_putNote_22 hl (by decide) rfl (fun ls hl => ?_)
  have loop24 : ∀ (n_ : Nat) (i ph : Nat), k - i < n_ → (i ≤ k) → (ph = i % P) → ∀ (H : Heap) (locs : List Loc) (ls : Array Slot), wX Z (ids g) A (cE Z A g (up2 μ b 5 (ntR (μ b 5) (q * 160 + n) P am i))) (fA (ids g) A (cE Z A g μ) s.heap.size) s H locs → lv_has ls 9 [(0, .ref (A (b, 4))), (1, .int (nI q)), (2, .int (nI P)), (3, .int am), (4, .int (nI k)), (5, .int (nI (q * 160 + n))), (6, .int (nI (P / 2))), (7, .int (nI ph)), (8, .int (nI i))] → W p l e (rmD 2 0 0) s m ([.ref (A (b, 4)), .int (nI q), .int (nI P), .int am, .int (nI k)] : List Value).toArray below meth c H locs 0 0 (MQ below (va_Qi (fun r u => r = nI (n + k) ∧ u = up2 (up2 (up2 (up2 μ b 5 (ntR (μ b 5) (q * 160 + n) P am k)) b 6 (upd (μ b 6) (q * 160 + j) (nI k))) b 8 (upd (μ b 8) q (nI (j + 1)))) b 7 (upd (μ b 7) q (nI (n + k)))) (fun u t => qB Z (ids g) A ((cE Z A g) u) (fA (ids g) A (cE Z A g μ) s.heap.size) t) (fA (ids g) A (cE Z A g μ) s.heap.size)) ([.ref (A (b, 4)), .int (nI q), .int (nI P), .int am, .int (nI k)] : List Value).toArray s 0 0 (fA (ids g) A (cE Z A g μ) s.heap.size)) (F0 m 24 ls []) := by
    intro n_
    induction n_ with
    | zero => intro i ph hm; exact absurd hm (Nat.not_lt_zero _)
    | succ n_ ih24 =>
      intro i ph hm hi hph H locs ls hW hl
      have hp2 : P / 2 ≤ P := Nat.div_le_self _ _
      have hpl : ph < P := by rw [hph]; exact Nat.mod_lt _ (by omega)
      refine lv_iload hxe hcd dX5_putNote_24 (lv_at hl 8 rfl) ?_
      refine lv_iload hxe hcd dX5_putNote_26 (lv_at hl 4 rfl) ?_
      refine n_ge S (a := i) (b := k) (by omega) (by omega) dX5_putNote_28 (tgt := 80) (by decide) (fun c28 => ?_) (fun c28 => ?_)
      · refine lv_aload_n hxe hcd dX5_putNote_80 rfl (lv_at hl 0 rfl) ?_
        refine gf_X5_15 S hW hb dX5_putNote_81 ?_
        refine lv_iload_n hxe hcd dX5_putNote_84 rfl (lv_at hl 1 rfl) ?_
        refine lv_sipush (v := (nI 160)) hxe hcd dX5_putNote_85 (by decide) ?_
        refine n_imul S (a := q) (b := 160) dX5_putNote_88 ?_
        refine lv_aload_n hxe hcd dX5_putNote_89 rfl (lv_at hl 0 rfl) ?_
        refine lv_iload_n hxe hcd dX5_putNote_90 rfl (lv_at hl 1 rfl) ?_
        refine r_calli0 (r_runV hZ S hW (As := [.int (nI q)]) (rest := [.int (nI (q * 160)), .ref (A (b, 6))]) (t_X5_notesOf l hZ A g (up2 μ b 5 (ntR (μ b 5) (q * 160 + n) P am i)) H.size hb (nI q)) k_X5_43 (r_recv hW (x := (b, 4)) (in_s hb (by decide)) rfl rfl) (hl.1) rfl rfl (Nat.le_of_ble_eq_true rfl) ⟨Nat.le_of_ble_eq_true rfl, Nat.le_of_ble_eq_true rfl⟩ ⟨Nat.le_of_ble_eq_true rfl, Nat.le_of_ble_eq_true rfl⟩ dX5_putNote_91) hW (fun r91 H locs hp91 hW => ?_)
        have hp91 := hp91.symm
        subst hp91
        refine r_as (y := (nI j)) (by rw [up2_o (o2 := 8) (o := 5) (by decide), rd_in (n := 4) (k := q) _ hq (by decide), hj]) ?_
        refine n_iadd S (a := (q * 160)) (b := j) dX5_putNote_94 ?_
        refine lv_iload hxe hcd dX5_putNote_95 (lv_at hl 4 rfl) ?_
        refine r_callv (F := (cE Z A g)) (r_runSN hZ S hW (As := [.ref (A (b, 6)), .int (nI ((q * 160) + j)), .int (nI k)]) (rest := []) (t_X9_write l hZ A g (up2 μ b 5 (ntR (μ b 5) (q * 160 + n) P am i)) H.size (b := b) (o := 6) (n := 640) rfl (in_s hb (by decide)) (nI ((q * 160) + j)) (nI k)) k_X5_50 (hl.1) rfl rfl (Nat.le_of_ble_eq_true rfl) ⟨Nat.le_of_ble_eq_true rfl, Nat.le_of_ble_eq_true rfl⟩ ⟨Nat.le_of_ble_eq_true rfl, Nat.le_of_ble_eq_true rfl⟩ dX5_putNote_97) hW (fun u97 H locs hp97 hW => ?_)
        have hp97 := hp97.symm
        subst hp97
        refine lv_aload_n hxe hcd dX5_putNote_100 rfl (lv_at hl 0 rfl) ?_
        refine gf_X5_21 S hW hb dX5_putNote_101 ?_
        refine lv_iload_n hxe hcd dX5_putNote_104 rfl (lv_at hl 1 rfl) ?_
        refine lv_aload_n hxe hcd dX5_putNote_105 rfl (lv_at hl 0 rfl) ?_
        refine lv_iload_n hxe hcd dX5_putNote_106 rfl (lv_at hl 1 rfl) ?_
        refine r_calli0 (r_runV hZ S hW (As := [.int (nI q)]) (rest := [.int (nI q), .ref (A (b, 8))]) (t_X5_notesOf l hZ A g (up2 (up2 μ b 5 (ntR (μ b 5) (q * 160 + n) P am i)) b 6 (wr 640 ((up2 μ b 5 (ntR (μ b 5) (q * 160 + n) P am i)) b 6) (nI ((q * 160) + j)) (nI k))) H.size hb (nI q)) k_X5_43 (r_recv hW (x := (b, 4)) (in_s hb (by decide)) rfl rfl) (hl.1) rfl rfl (Nat.le_of_ble_eq_true rfl) ⟨Nat.le_of_ble_eq_true rfl, Nat.le_of_ble_eq_true rfl⟩ ⟨Nat.le_of_ble_eq_true rfl, Nat.le_of_ble_eq_true rfl⟩ dX5_putNote_107) hW (fun r107 H locs hp107 hW => ?_)
        have hp107 := hp107.symm
        subst hp107
        refine r_as (y := (nI j)) (by rw [up2_o (o2 := 8) (o := 6) (by decide), up2_o (o2 := 8) (o := 5) (by decide), rd_in (n := 4) (k := q) _ hq (by decide), hj]) ?_
        refine lv_iconst (v := (nI 1)) hxe hcd dX5_putNote_110 (by decide) ?_
        refine n_iadd S (a := j) (b := 1) dX5_putNote_111 ?_
        refine r_callv (F := (cE Z A g)) (r_runSN hZ S hW (As := [.ref (A (b, 8)), .int (nI q), .int (nI (j + 1))]) (rest := []) (t_X9_write l hZ A g (up2 (up2 μ b 5 (ntR (μ b 5) (q * 160 + n) P am i)) b 6 (wr 640 ((up2 μ b 5 (ntR (μ b 5) (q * 160 + n) P am i)) b 6) (nI ((q * 160) + j)) (nI k))) H.size (b := b) (o := 8) (n := 4) rfl (in_s hb (by decide)) (nI q) (nI (j + 1))) k_X5_50 (hl.1) rfl rfl (Nat.le_of_ble_eq_true rfl) ⟨Nat.le_of_ble_eq_true rfl, Nat.le_of_ble_eq_true rfl⟩ ⟨Nat.le_of_ble_eq_true rfl, Nat.le_of_ble_eq_true rfl⟩ dX5_putNote_112) hW (fun u112 H locs hp112 hW => ?_)
        have hp112 := hp112.symm
        subst hp112
        refine lv_aload_n hxe hcd dX5_putNote_115 rfl (lv_at hl 0 rfl) ?_
        refine gf_X5_18 S hW hb dX5_putNote_116 ?_
        refine lv_iload_n hxe hcd dX5_putNote_119 rfl (lv_at hl 1 rfl) ?_
        refine lv_aload_n hxe hcd dX5_putNote_120 rfl (lv_at hl 0 rfl) ?_
        refine lv_iload_n hxe hcd dX5_putNote_121 rfl (lv_at hl 1 rfl) ?_
        refine r_calli0 (r_runV hZ S hW (As := [.int (nI q)]) (rest := [.int (nI q), .ref (A (b, 7))]) (t_X5_samplesOf l hZ A g (up2 (up2 (up2 μ b 5 (ntR (μ b 5) (q * 160 + n) P am i)) b 6 (wr 640 ((up2 μ b 5 (ntR (μ b 5) (q * 160 + n) P am i)) b 6) (nI ((q * 160) + j)) (nI k))) b 8 (wr 4 ((up2 (up2 μ b 5 (ntR (μ b 5) (q * 160 + n) P am i)) b 6 (wr 640 ((up2 μ b 5 (ntR (μ b 5) (q * 160 + n) P am i)) b 6) (nI ((q * 160) + j)) (nI k))) b 8) (nI q) (nI (j + 1)))) H.size hb (nI q)) k_X5_32 (r_recv hW (x := (b, 4)) (in_s hb (by decide)) rfl rfl) (hl.1) rfl rfl (Nat.le_of_ble_eq_true rfl) ⟨Nat.le_of_ble_eq_true rfl, Nat.le_of_ble_eq_true rfl⟩ ⟨Nat.le_of_ble_eq_true rfl, Nat.le_of_ble_eq_true rfl⟩ dX5_putNote_122) hW (fun r122 H locs hp122 hW => ?_)
        have hp122 := hp122.symm
        subst hp122
        refine r_as (y := (nI n)) (by rw [up2_o (o2 := 7) (o := 8) (by decide), up2_o (o2 := 7) (o := 6) (by decide), up2_o (o2 := 7) (o := 5) (by decide), rd_in (n := 4) (k := q) _ hq (by decide), hn]) ?_
        refine lv_iload hxe hcd dX5_putNote_125 (lv_at hl 4 rfl) ?_
        refine n_iadd S (a := n) (b := k) dX5_putNote_127 ?_
        refine r_callv (F := (cE Z A g)) (r_runSN hZ S hW (As := [.ref (A (b, 7)), .int (nI q), .int (nI (n + k))]) (rest := []) (t_X9_write l hZ A g (up2 (up2 (up2 μ b 5 (ntR (μ b 5) (q * 160 + n) P am i)) b 6 (wr 640 ((up2 μ b 5 (ntR (μ b 5) (q * 160 + n) P am i)) b 6) (nI ((q * 160) + j)) (nI k))) b 8 (wr 4 ((up2 (up2 μ b 5 (ntR (μ b 5) (q * 160 + n) P am i)) b 6 (wr 640 ((up2 μ b 5 (ntR (μ b 5) (q * 160 + n) P am i)) b 6) (nI ((q * 160) + j)) (nI k))) b 8) (nI q) (nI (j + 1)))) H.size (b := b) (o := 7) (n := 4) rfl (in_s hb (by decide)) (nI q) (nI (n + k))) k_X5_50 (hl.1) rfl rfl (Nat.le_of_ble_eq_true rfl) ⟨Nat.le_of_ble_eq_true rfl, Nat.le_of_ble_eq_true rfl⟩ ⟨Nat.le_of_ble_eq_true rfl, Nat.le_of_ble_eq_true rfl⟩ dX5_putNote_128) hW (fun u128 H locs hp128 hW => ?_)
        have hp128 := hp128.symm
        subst hp128
        refine lv_aload_n hxe hcd dX5_putNote_131 rfl (lv_at hl 0 rfl) ?_
        refine lv_iload_n hxe hcd dX5_putNote_132 rfl (lv_at hl 1 rfl) ?_
        refine r_calli0 (r_runV hZ S hW (As := [.int (nI q)]) (rest := []) (t_X5_samplesOf l hZ A g (up2 (up2 (up2 (up2 μ b 5 (ntR (μ b 5) (q * 160 + n) P am i)) b 6 (wr 640 ((up2 μ b 5 (ntR (μ b 5) (q * 160 + n) P am i)) b 6) (nI ((q * 160) + j)) (nI k))) b 8 (wr 4 ((up2 (up2 μ b 5 (ntR (μ b 5) (q * 160 + n) P am i)) b 6 (wr 640 ((up2 μ b 5 (ntR (μ b 5) (q * 160 + n) P am i)) b 6) (nI ((q * 160) + j)) (nI k))) b 8) (nI q) (nI (j + 1)))) b 7 (wr 4 ((up2 (up2 (up2 μ b 5 (ntR (μ b 5) (q * 160 + n) P am i)) b 6 (wr 640 ((up2 μ b 5 (ntR (μ b 5) (q * 160 + n) P am i)) b 6) (nI ((q * 160) + j)) (nI k))) b 8 (wr 4 ((up2 (up2 μ b 5 (ntR (μ b 5) (q * 160 + n) P am i)) b 6 (wr 640 ((up2 μ b 5 (ntR (μ b 5) (q * 160 + n) P am i)) b 6) (nI ((q * 160) + j)) (nI k))) b 8) (nI q) (nI (j + 1)))) b 7) (nI q) (nI (n + k)))) H.size hb (nI q)) k_X5_32 (r_recv hW (x := (b, 4)) (in_s hb (by decide)) rfl rfl) (hl.1) rfl rfl (Nat.le_of_ble_eq_true rfl) ⟨Nat.le_of_ble_eq_true rfl, Nat.le_of_ble_eq_true rfl⟩ ⟨Nat.le_of_ble_eq_true rfl, Nat.le_of_ble_eq_true rfl⟩ dX5_putNote_133) hW (fun r133 H locs hp133 hW => ?_)
        have hp133 := hp133.symm
        subst hp133
        refine r_as (y := (nI (n + k))) (by rw [up2_s, up2_o (o2 := 7) (o := 8) (by decide), up2_o (o2 := 7) (o := 6) (by decide), up2_o (o2 := 7) (o := 5) (by decide), wr_in (n := 4) (k := q) _ _ hq (by decide), rd_in (n := 4) (k := q) _ hq (by decide), upd_s]) ?_
        refine r_iret S hr hlk (F := (cE Z A g)) (u := (up2 (up2 (up2 (up2 μ b 5 (ntR (μ b 5) (q * 160 + n) P am i)) b 6 (wr 640 ((up2 μ b 5 (ntR (μ b 5) (q * 160 + n) P am i)) b 6) (nI ((q * 160) + j)) (nI k))) b 8 (wr 4 ((up2 (up2 μ b 5 (ntR (μ b 5) (q * 160 + n) P am i)) b 6 (wr 640 ((up2 μ b 5 (ntR (μ b 5) (q * 160 + n) P am i)) b 6) (nI ((q * 160) + j)) (nI k))) b 8) (nI q) (nI (j + 1)))) b 7 (wr 4 ((up2 (up2 (up2 μ b 5 (ntR (μ b 5) (q * 160 + n) P am i)) b 6 (wr 640 ((up2 μ b 5 (ntR (μ b 5) (q * 160 + n) P am i)) b 6) (nI ((q * 160) + j)) (nI k))) b 8 (wr 4 ((up2 (up2 μ b 5 (ntR (μ b 5) (q * 160 + n) P am i)) b 6 (wr 640 ((up2 μ b 5 (ntR (μ b 5) (q * 160 + n) P am i)) b 6) (nI ((q * 160) + j)) (nI k))) b 8) (nI q) (nI (j + 1)))) b 7) (nI q) (nI (n + k))))) hW ?_ dX5_putNote_136
        obtain rfl : i = k := by omega
        refine ⟨rfl, ?_⟩
        rw [up2_o (o2 := 7) (o := 8) (by decide), up2_o (o2 := 7) (o := 6) (by decide), up2_o (o2 := 7) (o := 5) (by decide), up2_o (o2 := 8) (o := 6) (by decide), up2_o (o2 := 8) (o := 5) (by decide), up2_o (o2 := 6) (o := 5) (by decide), wr_in (n := 4) (k := q) _ _ hq (by decide), wr_in (n := 4) (k := q) _ _ hq (by decide), wr_in (n := 640) (k := q * 160 + j) _ _ (by omega) (by decide)]
      · refine lv_aload_n hxe hcd dX5_putNote_31 rfl (lv_at hl 0 rfl) ?_
        refine gf_X5_9 S hW hb dX5_putNote_32 ?_
        refine lv_iload hxe hcd dX5_putNote_35 (lv_at hl 5 rfl) ?_
        refine lv_iload hxe hcd dX5_putNote_37 (lv_at hl 8 rfl) ?_
        refine n_iadd S (a := (q * 160 + n)) (b := i) dX5_putNote_39 ?_
        refine lv_iload hxe hcd dX5_putNote_40 (lv_at hl 7 rfl) ?_
        refine lv_iload hxe hcd dX5_putNote_42 (lv_at hl 6 rfl) ?_
        refine n_ge S (a := ph) (b := (P / 2)) (by omega) (by omega) dX5_putNote_44 (tgt := 51) (by decide) (fun c44 => ?_) (fun c44 => ?_)
        · refine lv_iload_n hxe hcd dX5_putNote_51 rfl (lv_at hl 3 rfl) ?_
          refine lv_ineg hxe hcd dX5_putNote_52 ?_
          refine r_callv (F := (cE Z A g)) (r_runSN hZ S hW (As := [.ref (A (b, 5)), .int (nI ((q * 160 + n) + i)), .int (-am)]) (rest := []) (t_X9_write l hZ A g (up2 μ b 5 (ntR (μ b 5) (q * 160 + n) P am i)) H.size (b := b) (o := 5) (n := 640) rfl (in_s hb (by decide)) (nI ((q * 160 + n) + i)) (-am)) k_X5_50 (hl.1) rfl rfl (Nat.le_of_ble_eq_true rfl) ⟨Nat.le_of_ble_eq_true rfl, Nat.le_of_ble_eq_true rfl⟩ ⟨Nat.le_of_ble_eq_true rfl, Nat.le_of_ble_eq_true rfl⟩ dX5_putNote_53) hW (fun u53 H locs hp53 hW => ?_)
          have hp53 := hp53.symm
          subst hp53
          refine lv_iload hxe hcd dX5_putNote_56 (lv_at hl 7 rfl) ?_
          refine lv_iconst (v := (nI 1)) hxe hcd dX5_putNote_58 (by decide) ?_
          refine n_iadd S (a := ph) (b := 1) dX5_putNote_59 ?_
          refine lv_iload_n hxe hcd dX5_putNote_60 rfl (lv_at hl 2 rfl) ?_
          refine n_ge S (a := (ph + 1)) (b := P) (by omega) (by omega) dX5_putNote_61 (tgt := 71) (by decide) (fun c61 => ?_) (fun c61 => ?_)
          · refine lv_iconst (v := (nI 0)) hxe hcd dX5_putNote_71 (by decide) ?_
            refine lv_istore (lv' := [(7, .int (nI 0)), (0, .ref (A (b, 4))), (1, .int (nI q)), (2, .int (nI P)), (3, .int am), (4, .int (nI k)), (5, .int (nI (q * 160 + n))), (6, .int (nI (P / 2))), (8, .int (nI i))]) hxe hcd dX5_putNote_72 hl (by decide) rfl (fun ls hl => ?_)
            refine lv_iinc (v := (nI (i + 1))) (lv' := [(8, .int (nI (i + 1))), (7, .int (nI 0)), (0, .ref (A (b, 4))), (1, .int (nI q)), (2, .int (nI P)), (3, .int am), (4, .int (nI k)), (5, .int (nI (q * 160 + n))), (6, .int (nI (P / 2)))]) hxe hcd dX5_putNote_74 hl (k := 8) rfl (nI_add i 1) (by decide) rfl (fun ls hl => ?_)
            refine lv_goto (tgt := 24) hxe hcd dX5_putNote_77 (by decide) ?_
            exact ih24 (i + 1) 0 (by omega) (by omega) (mod_s0 hph hP (by omega)) _ _ _ (by rw [← nt_step μ b (s0 := q * 160 + n) (i := i) (y := -am) (by omega) (by rw [← hph, if_neg (by omega)])]; exact hW) (lv_sub hl [2, 3, 4, 5, 6, 7, 8, 1, 0] rfl)
          · refine lv_iload hxe hcd dX5_putNote_64 (lv_at hl 7 rfl) ?_
            refine lv_iconst (v := (nI 1)) hxe hcd dX5_putNote_66 (by decide) ?_
            refine n_iadd S (a := ph) (b := 1) dX5_putNote_67 ?_
            refine lv_goto (tgt := 72) hxe hcd dX5_putNote_68 (by decide) ?_
            refine lv_istore (lv' := [(7, .int (nI (ph + 1))), (0, .ref (A (b, 4))), (1, .int (nI q)), (2, .int (nI P)), (3, .int am), (4, .int (nI k)), (5, .int (nI (q * 160 + n))), (6, .int (nI (P / 2))), (8, .int (nI i))]) hxe hcd dX5_putNote_72 hl (by decide) rfl (fun ls hl => ?_)
            refine lv_iinc (v := (nI (i + 1))) (lv' := [(8, .int (nI (i + 1))), (7, .int (nI (ph + 1))), (0, .ref (A (b, 4))), (1, .int (nI q)), (2, .int (nI P)), (3, .int am), (4, .int (nI k)), (5, .int (nI (q * 160 + n))), (6, .int (nI (P / 2)))]) hxe hcd dX5_putNote_74 hl (k := 8) rfl (nI_add i 1) (by decide) rfl (fun ls hl => ?_)
            refine lv_goto (tgt := 24) hxe hcd dX5_putNote_77 (by decide) ?_
            exact ih24 (i + 1) (ph + 1) (by omega) (by omega) (mod_s1 hph (by omega)) _ _ _ (by rw [← nt_step μ b (s0 := q * 160 + n) (i := i) (y := -am) (by omega) (by rw [← hph, if_neg (by omega)])]; exact hW) (lv_sub hl [2, 3, 4, 5, 6, 7, 8, 1, 0] rfl)
        · refine lv_iload_n hxe hcd dX5_putNote_47 rfl (lv_at hl 3 rfl) ?_
          refine lv_goto (tgt := 53) hxe hcd dX5_putNote_48 (by decide) ?_
          refine r_callv (F := (cE Z A g)) (r_runSN hZ S hW (As := [.ref (A (b, 5)), .int (nI ((q * 160 + n) + i)), .int am]) (rest := []) (t_X9_write l hZ A g (up2 μ b 5 (ntR (μ b 5) (q * 160 + n) P am i)) H.size (b := b) (o := 5) (n := 640) rfl (in_s hb (by decide)) (nI ((q * 160 + n) + i)) am) k_X5_50 (hl.1) rfl rfl (Nat.le_of_ble_eq_true rfl) ⟨Nat.le_of_ble_eq_true rfl, Nat.le_of_ble_eq_true rfl⟩ ⟨Nat.le_of_ble_eq_true rfl, Nat.le_of_ble_eq_true rfl⟩ dX5_putNote_53) hW (fun u53 H locs hp53 hW => ?_)
          have hp53 := hp53.symm
          subst hp53
          refine lv_iload hxe hcd dX5_putNote_56 (lv_at hl 7 rfl) ?_
          refine lv_iconst (v := (nI 1)) hxe hcd dX5_putNote_58 (by decide) ?_
          refine n_iadd S (a := ph) (b := 1) dX5_putNote_59 ?_
          refine lv_iload_n hxe hcd dX5_putNote_60 rfl (lv_at hl 2 rfl) ?_
          refine n_ge S (a := (ph + 1)) (b := P) (by omega) (by omega) dX5_putNote_61 (tgt := 71) (by decide) (fun c61 => ?_) (fun c61 => ?_)
          · refine lv_iconst (v := (nI 0)) hxe hcd dX5_putNote_71 (by decide) ?_
            refine lv_istore (lv' := [(7, .int (nI 0)), (0, .ref (A (b, 4))), (1, .int (nI q)), (2, .int (nI P)), (3, .int am), (4, .int (nI k)), (5, .int (nI (q * 160 + n))), (6, .int (nI (P / 2))), (8, .int (nI i))]) hxe hcd dX5_putNote_72 hl (by decide) rfl (fun ls hl => ?_)
            refine lv_iinc (v := (nI (i + 1))) (lv' := [(8, .int (nI (i + 1))), (7, .int (nI 0)), (0, .ref (A (b, 4))), (1, .int (nI q)), (2, .int (nI P)), (3, .int am), (4, .int (nI k)), (5, .int (nI (q * 160 + n))), (6, .int (nI (P / 2)))]) hxe hcd dX5_putNote_74 hl (k := 8) rfl (nI_add i 1) (by decide) rfl (fun ls hl => ?_)
            refine lv_goto (tgt := 24) hxe hcd dX5_putNote_77 (by decide) ?_
            exact ih24 (i + 1) 0 (by omega) (by omega) (mod_s0 hph hP (by omega)) _ _ _ (by rw [← nt_step μ b (s0 := q * 160 + n) (i := i) (y := am) (by omega) (by rw [← hph, if_pos (by omega)])]; exact hW) (lv_sub hl [2, 3, 4, 5, 6, 7, 8, 1, 0] rfl)
          · refine lv_iload hxe hcd dX5_putNote_64 (lv_at hl 7 rfl) ?_
            refine lv_iconst (v := (nI 1)) hxe hcd dX5_putNote_66 (by decide) ?_
            refine n_iadd S (a := ph) (b := 1) dX5_putNote_67 ?_
            refine lv_goto (tgt := 72) hxe hcd dX5_putNote_68 (by decide) ?_
            refine lv_istore (lv' := [(7, .int (nI (ph + 1))), (0, .ref (A (b, 4))), (1, .int (nI q)), (2, .int (nI P)), (3, .int am), (4, .int (nI k)), (5, .int (nI (q * 160 + n))), (6, .int (nI (P / 2))), (8, .int (nI i))]) hxe hcd dX5_putNote_72 hl (by decide) rfl (fun ls hl => ?_)
            refine lv_iinc (v := (nI (i + 1))) (lv' := [(8, .int (nI (i + 1))), (7, .int (nI (ph + 1))), (0, .ref (A (b, 4))), (1, .int (nI q)), (2, .int (nI P)), (3, .int am), (4, .int (nI k)), (5, .int (nI (q * 160 + n))), (6, .int (nI (P / 2)))]) hxe hcd dX5_putNote_74 hl (k := 8) rfl (nI_add i 1) (by decide) rfl (fun ls hl => ?_)
            refine lv_goto (tgt := 24) hxe hcd dX5_putNote_77 (by decide) ?_
            exact ih24 (i + 1) (ph + 1) (by omega) (by omega) (mod_s1 hph (by omega)) _ _ _ (by rw [← nt_step μ b (s0 := q * 160 + n) (i := i) (y := am) (by omega) (by rw [← hph, if_pos (by omega)])]; exact hW) (lv_sub hl [2, 3, 4, 5, 6, 7, 8, 1, 0] rfl)
  exact loop24 (k + 1) 0 0 (Nat.lt_succ_self _) (Nat.zero_le _) (Nat.zero_mod P).symm _ _ _ (by rw [ntR_0, up2_id]; exact hW) (lv_sub hl [4, 5, 6, 7, 8, 3, 2, 1, 0] rfl)
