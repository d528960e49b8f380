set_option maxHeartbeats 4000000 in
set_option maxRecDepth 100000 in
theorem t_X0_faultOfPosition (l : Launch) {Z : ZT} (hZ : zOK Z) (A : Nat × Nat → Nat) (g : Nat → Bool) (μ : CM) (sz : Nat) {b : Nat} (hb : sB g b) {nf : Nat} (hc : μ b 1 2 = nI nf) (h8 : nf ≤ 8) (x : Int32) : XCi l yX0_faultOfPosition cX0_faultOfPosition 2 (some .int) 1 [.ref (A (b, 1)), .int x] Z (ids g) A (cE Z A g μ) sz (fun r => (r = nI 0 ∧ IX x nf) ∨ (r = nI 1 ∧ ¬ IX x nf)) := by
  refine r_met (E := (cE Z A g μ)) (by decide +kernel) (Nat.le_of_ble_eq_true rfl) ?_
  intro p e s m below meth c ls S hr hlk hnm hsz hW hl
  have hxe := S.1
  have hcd := S.2.1
  subst hsz
  have hl : lv_has ls 2 [(0, .ref (A (b, 1))), (1, .int x)] := hl
  refine lv_iload_n hxe hcd dX0_faultOfPosition_0 rfl (lv_at hl 1 rfl) ?_
  refine lv_iconst (v := (nI 0)) hxe hcd dX0_faultOfPosition_1 (by decide) ?_
  refine lv_aload_n hxe hcd dX0_faultOfPosition_2 rfl (lv_at hl 0 rfl) ?_
  refine gf_X0_18 S hW hb dX0_faultOfPosition_3 ?_
  refine r_as (y := (nI nf)) (hc) ?_
  refine lv_iconst (v := (nI 1)) hxe hcd dX0_faultOfPosition_6 (by decide) ?_
  refine lv_isub hxe hcd dX0_faultOfPosition_7 ?_
  refine r_calli0 (r_runSN hZ S hW (As := [.int x, .int (nI 0), .int ((nI nf) - (nI 1))]) (rest := []) (t_X9_isWithin l hZ (ids g) A (cE Z A g μ) s.heap.size x (nI 0) ((nI nf) - (nI 1))) k_X0_30 (hl.1) rfl rfl (Nat.le_of_ble_eq_true rfl) ⟨Nat.le_of_ble_eq_true rfl, Nat.le_of_ble_eq_true rfl⟩ ⟨Nat.le_of_ble_eq_true rfl, Nat.le_of_ble_eq_true rfl⟩ dX0_faultOfPosition_8) hW (fun r8 H locs hp8 hW => ?_)
  rcases hp8 with ⟨hp80, hp8⟩ | ⟨hp80, hp8⟩
  · subst hp80
    refine lv_if_eq (tgt := 18) hxe hcd dX0_faultOfPosition_11 (by decide) (fun h => absurd h (by decide)) (fun _ => ?_)
    refine lv_iconst (v := (nI 0)) hxe hcd dX0_faultOfPosition_14 (by decide) ?_
    refine lv_goto (tgt := 19) hxe hcd dX0_faultOfPosition_15 (by decide) ?_
    refine r_iret0 S hr hlk hW ?_ dX0_faultOfPosition_19
    first | exact Or.inl ⟨rfl, (IX_sub (by omega)).mp hp8⟩ | exact Or.inr ⟨rfl, fun h => hp8 ((IX_sub (by omega)).mpr h)⟩
  · subst hp80
    refine lv_if_eq (tgt := 18) hxe hcd dX0_faultOfPosition_11 (by decide) (fun _ => ?_) (fun h => absurd (by decide) h)
    refine lv_iconst (v := (nI 1)) hxe hcd dX0_faultOfPosition_18 (by decide) ?_
    refine r_iret0 S hr hlk hW ?_ dX0_faultOfPosition_19
    first | exact Or.inl ⟨rfl, (IX_sub (by omega)).mp hp8⟩ | exact Or.inr ⟨rfl, fun h => hp8 ((IX_sub (by omega)).mpr h)⟩
set_option maxHeartbeats 4000000 in
set_option maxRecDepth 100000 in
theorem t_X0_faultOfNewPosition (l : Launch) {Z : ZT} (hZ : zOK Z) (A : Nat × Nat → Nat) (g : Nat → Bool) (μ : CM) (sz : Nat) {b : Nat} (hb : sB g b) {nf : Nat} (hc : μ b 1 2 = nI nf) (h8 : nf ≤ 8) (x : Int32) : XCi l yX0_faultOfNewPosition cX0_faultOfNewPosition 2 (some .int) 1 [.ref (A (b, 1)), .int x] Z (ids g) A (cE Z A g μ) sz (fun r => (r = nI 0 ∧ IX x (nf + 1)) ∨ (r = nI 1 ∧ ¬ IX x (nf + 1))) := by
  refine r_met (E := (cE Z A g μ)) (by decide +kernel) (Nat.le_of_ble_eq_true rfl) ?_
  intro p e s m below meth c ls S hr hlk hnm hsz hW hl
  have hxe := S.1
  have hcd := S.2.1
  subst hsz
  have hl : lv_has ls 2 [(0, .ref (A (b, 1))), (1, .int x)] := hl
  refine lv_iload_n hxe hcd dX0_faultOfNewPosition_0 rfl (lv_at hl 1 rfl) ?_
  refine lv_iconst (v := (nI 0)) hxe hcd dX0_faultOfNewPosition_1 (by decide) ?_
  refine lv_aload_n hxe hcd dX0_faultOfNewPosition_2 rfl (lv_at hl 0 rfl) ?_
  refine gf_X0_18 S hW hb dX0_faultOfNewPosition_3 ?_
  refine r_as (y := (nI nf)) (hc) ?_
  refine r_calli0 (r_runSN hZ S hW (As := [.int x, .int (nI 0), .int (nI nf)]) (rest := []) (t_X9_isWithin l hZ (ids g) A (cE Z A g μ) s.heap.size x (nI 0) (nI nf)) k_X0_30 (hl.1) rfl rfl (Nat.le_of_ble_eq_true rfl) ⟨Nat.le_of_ble_eq_true rfl, Nat.le_of_ble_eq_true rfl⟩ ⟨Nat.le_of_ble_eq_true rfl, Nat.le_of_ble_eq_true rfl⟩ dX0_faultOfNewPosition_6) hW (fun r6 H locs hp6 hW => ?_)
  rcases hp6 with ⟨hp60, hp6⟩ | ⟨hp60, hp6⟩
  · subst hp60
    refine lv_if_eq (tgt := 16) hxe hcd dX0_faultOfNewPosition_9 (by decide) (fun h => absurd h (by decide)) (fun _ => ?_)
    refine lv_iconst (v := (nI 0)) hxe hcd dX0_faultOfNewPosition_12 (by decide) ?_
    refine lv_goto (tgt := 17) hxe hcd dX0_faultOfNewPosition_13 (by decide) ?_
    refine r_iret0 S hr hlk hW ?_ dX0_faultOfNewPosition_17
    first | exact Or.inl ⟨rfl, (IX_le (by omega)).mp hp6⟩ | exact Or.inr ⟨rfl, fun h => hp6 ((IX_le (by omega)).mpr h)⟩
  · subst hp60
    refine lv_if_eq (tgt := 16) hxe hcd dX0_faultOfNewPosition_9 (by decide) (fun _ => ?_) (fun h => absurd (by decide) h)
    refine lv_iconst (v := (nI 1)) hxe hcd dX0_faultOfNewPosition_16 (by decide) ?_
    refine r_iret0 S hr hlk hW ?_ dX0_faultOfNewPosition_17
    first | exact Or.inl ⟨rfl, (IX_le (by omega)).mp hp6⟩ | exact Or.inr ⟨rfl, fun h => hp6 ((IX_le (by omega)).mpr h)⟩
set_option maxHeartbeats 4000000 in
set_option maxRecDepth 100000 in
theorem t_X0_isKindWith (l : Launch) {Z : ZT} (hZ : zOK Z) {α : Type} (L : List α) (A : α → Nat) (E : α → va_E) (sz : Nat) (k x : Int32) : XCi l yX0_isKindWith cX0_isKindWith 2 (some .boolean) 1 [.int k, .int x] Z L A E sz (fun r => BP r (KP k x)) := by
  refine r_met (E := E) (by decide +kernel) (Nat.le_of_ble_eq_true rfl) ?_
  intro p e s m below meth c ls S hr hlk hnm hsz hW hl
  have hxe := S.1
  have hcd := S.2.1
  subst hsz
  have hl : lv_has ls 2 [(0, .int k), (1, .int x)] := hl
  refine lv_iload_n hxe hcd dX0_isKindWith_0 rfl (lv_at hl 0 rfl) ?_
  by_cases e1_99 : k = nI 99
  · subst e1_99
    refine lv_tableIn (tgt := 109) hxe hcd dX0_isKindWith_1 (by decide) (by decide) (by first | rfl | decide) (by decide) ?_
    refine lv_iload_n hxe hcd dX0_isKindWith_109 rfl (lv_at hl 1 rfl) ?_
    refine lv_iconst (v := (nI 1)) hxe hcd dX0_isKindWith_110 (by decide) ?_
    refine lv_sipush (v := (nI 999)) hxe hcd dX0_isKindWith_111 (by decide) ?_
    refine r_calli0 (r_runSN hZ S hW (As := [.int x, .int (nI 1), .int (nI 999)]) (rest := []) (t_X9_isWithin l hZ L A E s.heap.size x (nI 1) (nI 999)) k_X0_30 (hl.1) rfl rfl (Nat.le_of_ble_eq_true rfl) ⟨Nat.le_of_ble_eq_true rfl, Nat.le_of_ble_eq_true rfl⟩ ⟨Nat.le_of_ble_eq_true rfl, Nat.le_of_ble_eq_true rfl⟩ dX0_isKindWith_114) hW (fun r114 H locs hp114 hW => ?_)
    rcases hp114 with ⟨hp1140, hp114⟩ | ⟨hp1140, hp114⟩
    · subst hp1140
      refine r_zret0 S hr hlk hW (by decide +kernel) ?_ dX0_isKindWith_117
      first | exact BP_t (KP_99.mpr hp114) | exact BP_f (fun h => hp114 (KP_99.mp h))
    · subst hp1140
      refine r_zret0 S hr hlk hW (by decide +kernel) ?_ dX0_isKindWith_117
      first | exact BP_t (KP_99.mpr hp114) | exact BP_f (fun h => hp114 (KP_99.mp h))
  by_cases e1_100 : k = nI 100
  · subst e1_100
    refine lv_tableIn (tgt := 93) hxe hcd dX0_isKindWith_1 (by decide) (by decide) (by first | rfl | decide) (by decide) ?_
    refine lv_iload_n hxe hcd dX0_isKindWith_93 rfl (lv_at hl 1 rfl) ?_
    refine lv_iconst (v := (nI 1)) hxe hcd dX0_isKindWith_94 (by decide) ?_
    refine lv_bipush (v := (nI 8)) hxe hcd dX0_isKindWith_95 (by decide) ?_
    refine r_calli0 (r_runSN hZ S hW (As := [.int x, .int (nI 1), .int (nI 8)]) (rest := []) (t_X9_isWithin l hZ L A E s.heap.size x (nI 1) (nI 8)) k_X0_30 (hl.1) rfl rfl (Nat.le_of_ble_eq_true rfl) ⟨Nat.le_of_ble_eq_true rfl, Nat.le_of_ble_eq_true rfl⟩ ⟨Nat.le_of_ble_eq_true rfl, Nat.le_of_ble_eq_true rfl⟩ dX0_isKindWith_97) hW (fun r97 H locs hp97 hW => ?_)
    rcases hp97 with ⟨hp970, hp97⟩ | ⟨hp970, hp97⟩
    · subst hp970
      refine r_zret0 S hr hlk hW (by decide +kernel) ?_ dX0_isKindWith_100
      first | exact BP_t (KP_100.mpr hp97) | exact BP_f (fun h => hp97 (KP_100.mp h))
    · subst hp970
      refine r_zret0 S hr hlk hW (by decide +kernel) ?_ dX0_isKindWith_100
      first | exact BP_t (KP_100.mpr hp97) | exact BP_f (fun h => hp97 (KP_100.mp h))
  by_cases e1_102 : k = nI 102
  · subst e1_102
    refine lv_tableIn (tgt := 118) hxe hcd dX0_isKindWith_1 (by decide) (by decide) (by first | rfl | decide) (by decide) ?_
    refine lv_iload_n hxe hcd dX0_isKindWith_118 rfl (lv_at hl 1 rfl) ?_
    refine lv_if_ne (tgt := 126) hxe hcd dX0_isKindWith_119 (by decide) (fun c119 => ?_) (fun c119 => ?_)
    · refine lv_iconst (v := (nI 0)) hxe hcd dX0_isKindWith_126 (by decide) ?_
      refine r_zret0 S hr hlk hW (by decide +kernel) ?_ dX0_isKindWith_127
      first | exact BP_t (KP_102.mpr c119) | exact BP_f (fun h => c119 (KP_102.mp h))
    · refine lv_iconst (v := (nI 1)) hxe hcd dX0_isKindWith_122 (by decide) ?_
      refine lv_goto (tgt := 127) hxe hcd dX0_isKindWith_123 (by decide) ?_
      refine r_zret0 S hr hlk hW (by decide +kernel) ?_ dX0_isKindWith_127
      first | exact BP_t (KP_102.mpr c119) | exact BP_f (fun h => c119 (KP_102.mp h))
  by_cases e1_103 : k = nI 103
  · subst e1_103
    refine lv_tableIn (tgt := 84) hxe hcd dX0_isKindWith_1 (by decide) (by decide) (by first | rfl | decide) (by decide) ?_
    refine lv_iload_n hxe hcd dX0_isKindWith_84 rfl (lv_at hl 1 rfl) ?_
    refine lv_iconst (v := (nI 0)) hxe hcd dX0_isKindWith_85 (by decide) ?_
    refine lv_sipush (v := (nI 200)) hxe hcd dX0_isKindWith_86 (by decide) ?_
    refine r_calli0 (r_runSN hZ S hW (As := [.int x, .int (nI 0), .int (nI 200)]) (rest := []) (t_X9_isWithin l hZ L A E s.heap.size x (nI 0) (nI 200)) k_X0_30 (hl.1) rfl rfl (Nat.le_of_ble_eq_true rfl) ⟨Nat.le_of_ble_eq_true rfl, Nat.le_of_ble_eq_true rfl⟩ ⟨Nat.le_of_ble_eq_true rfl, Nat.le_of_ble_eq_true rfl⟩ dX0_isKindWith_89) hW (fun r89 H locs hp89 hW => ?_)
    rcases hp89 with ⟨hp890, hp89⟩ | ⟨hp890, hp89⟩
    · subst hp890
      refine r_zret0 S hr hlk hW (by decide +kernel) ?_ dX0_isKindWith_92
      first | exact BP_t (KP_103.mpr hp89) | exact BP_f (fun h => hp89 (KP_103.mp h))
    · subst hp890
      refine r_zret0 S hr hlk hW (by decide +kernel) ?_ dX0_isKindWith_92
      first | exact BP_t (KP_103.mpr hp89) | exact BP_f (fun h => hp89 (KP_103.mp h))
  by_cases e1_109 : k = nI 109
  · subst e1_109
    refine lv_tableIn (tgt := 101) hxe hcd dX0_isKindWith_1 (by decide) (by decide) (by first | rfl | decide) (by decide) ?_
    refine lv_iload_n hxe hcd dX0_isKindWith_101 rfl (lv_at hl 1 rfl) ?_
    refine lv_iconst (v := (nI 2)) hxe hcd dX0_isKindWith_102 (by decide) ?_
    refine lv_bipush (v := (nI 8)) hxe hcd dX0_isKindWith_103 (by decide) ?_
    refine r_calli0 (r_runSN hZ S hW (As := [.int x, .int (nI 2), .int (nI 8)]) (rest := []) (t_X9_isWithin l hZ L A E s.heap.size x (nI 2) (nI 8)) k_X0_30 (hl.1) rfl rfl (Nat.le_of_ble_eq_true rfl) ⟨Nat.le_of_ble_eq_true rfl, Nat.le_of_ble_eq_true rfl⟩ ⟨Nat.le_of_ble_eq_true rfl, Nat.le_of_ble_eq_true rfl⟩ dX0_isKindWith_105) hW (fun r105 H locs hp105 hW => ?_)
    rcases hp105 with ⟨hp1050, hp105⟩ | ⟨hp1050, hp105⟩
    · subst hp1050
      refine r_zret0 S hr hlk hW (by decide +kernel) ?_ dX0_isKindWith_108
      first | exact BP_t (KP_109.mpr hp105) | exact BP_f (fun h => hp105 (KP_109.mp h))
    · subst hp1050
      refine r_zret0 S hr hlk hW (by decide +kernel) ?_ dX0_isKindWith_108
      first | exact BP_t (KP_109.mpr hp105) | exact BP_f (fun h => hp105 (KP_109.mp h))
  by_cases e1_115 : k = nI 115
  · subst e1_115
    refine lv_tableIn (tgt := 128) hxe hcd dX0_isKindWith_1 (by decide) (by decide) (by first | rfl | decide) (by decide) ?_
    refine lv_iload_n hxe hcd dX0_isKindWith_128 rfl (lv_at hl 1 rfl) ?_
    refine lv_iconst (v := (nI 2)) hxe hcd dX0_isKindWith_129 (by decide) ?_
    refine lv_bipush (v := (nI 99)) hxe hcd dX0_isKindWith_130 (by decide) ?_
    refine r_calli0 (r_runSN hZ S hW (As := [.int x, .int (nI 2), .int (nI 99)]) (rest := []) (t_X9_isWithin l hZ L A E s.heap.size x (nI 2) (nI 99)) k_X0_30 (hl.1) rfl rfl (Nat.le_of_ble_eq_true rfl) ⟨Nat.le_of_ble_eq_true rfl, Nat.le_of_ble_eq_true rfl⟩ ⟨Nat.le_of_ble_eq_true rfl, Nat.le_of_ble_eq_true rfl⟩ dX0_isKindWith_132) hW (fun r132 H locs hp132 hW => ?_)
    rcases hp132 with ⟨hp1320, hp132⟩ | ⟨hp1320, hp132⟩
    · subst hp1320
      refine r_zret0 S hr hlk hW (by decide +kernel) ?_ dX0_isKindWith_135
      first | exact BP_t (KP_115.mpr hp132) | exact BP_f (fun h => hp132 (KP_115.mp h))
    · subst hp1320
      refine r_zret0 S hr hlk hW (by decide +kernel) ?_ dX0_isKindWith_135
      first | exact BP_t (KP_115.mpr hp132) | exact BP_f (fun h => hp132 (KP_115.mp h))
  refine r_swD S (tgt := 136) dX0_isKindWith_1 [99, 100, 102, 103, 109, 115] (by intro k hk; simp only [List.mem_cons, List.not_mem_nil, or_false] at hk; rcases hk with rfl | rfl | rfl | rfl | rfl | rfl <;> first | exact ne_toInt e1_99 (by decide) | exact ne_toInt e1_100 (by decide) | exact ne_toInt e1_102 (by decide) | exact ne_toInt e1_103 (by decide) | exact ne_toInt e1_109 (by decide) | exact ne_toInt e1_115 (by decide)) (by decide) (by decide) (by decide) ?_
  refine lv_iconst (v := (nI 0)) hxe hcd dX0_isKindWith_136 (by decide) ?_
  refine r_zret0 S hr hlk hW (by decide +kernel) ?_ dX0_isKindWith_137
  exact BP_f (KP_no e1_103 e1_100 e1_109 e1_99 e1_102 e1_115)
set_option maxHeartbeats 4000000 in
set_option maxRecDepth 100000 in
theorem t_X0_faultOfNewFilter (l : Launch) {Z : ZT} (hZ : zOK Z) (A : Nat × Nat → Nat) (g : Nat → Bool) (μ : CM) (sz : Nat) {b : Nat} (hb : sB g b) {nf : Nat} (hc : μ b 1 2 = nI nf) (h8 : nf ≤ 8) (k x : Int32) : XCi l yX0_faultOfNewFilter cX0_faultOfNewFilter 3 (some .int) 2 [.ref (A (b, 1)), .int k, .int x] Z (ids g) A (cE Z A g μ) sz (fun r => (r = nI 0 ∧ KP k x ∧ nf < 8) ∨ (r = nI 2 ∧ ¬ KP k x) ∨ (r = nI 3 ∧ KP k x ∧ ¬ nf < 8)) := by
  refine r_met (E := (cE Z A g μ)) (by decide +kernel) (Nat.le_of_ble_eq_true rfl) ?_
  intro p e s m below meth c ls S hr hlk hnm hsz hW hl
  have hxe := S.1
  have hcd := S.2.1
  subst hsz
  have hl : lv_has ls 3 [(0, .ref (A (b, 1))), (1, .int k), (2, .int x)] := hl
  refine lv_iload_n hxe hcd dX0_faultOfNewFilter_0 rfl (lv_at hl 1 rfl) ?_
  refine lv_iload_n hxe hcd dX0_faultOfNewFilter_1 rfl (lv_at hl 2 rfl) ?_
  refine r_calli0 (r_runS hZ S hW (As := [.int k, .int x]) (rest := []) (t_X0_isKindWith l hZ (ids g) A (cE Z A g μ) s.heap.size k x) k_X0_34 (hl.1) rfl rfl (Nat.le_of_ble_eq_true rfl) ⟨Nat.le_of_ble_eq_true rfl, Nat.le_of_ble_eq_true rfl⟩ ⟨Nat.le_of_ble_eq_true rfl, Nat.le_of_ble_eq_true rfl⟩ dX0_faultOfNewFilter_2) hW (fun r2 H locs hp2 hW => ?_)
  rcases hp2 with ⟨hp20, hp2⟩ | ⟨hp20, hp2⟩
  · subst hp20
    refine lv_if_ne (tgt := 10) hxe hcd dX0_faultOfNewFilter_5 (by decide) (fun _ => ?_) (fun h => absurd h (by decide))
    refine lv_aload_n hxe hcd dX0_faultOfNewFilter_10 rfl (lv_at hl 0 rfl) ?_
    refine gf_X0_18 S hW hb dX0_faultOfNewFilter_11 ?_
    refine r_as (y := (nI nf)) (hc) ?_
    refine lv_bipush (v := (nI 8)) hxe hcd dX0_faultOfNewFilter_14 (by decide) ?_
    refine n_ge S (a := nf) (b := 8) (by omega) (by omega) dX0_faultOfNewFilter_16 (tgt := 23) (by decide) (fun c16 => ?_) (fun c16 => ?_)
    · refine lv_iconst (v := (nI 3)) hxe hcd dX0_faultOfNewFilter_23 (by decide) ?_
      refine r_iret0 S hr hlk hW ?_ dX0_faultOfNewFilter_24
      first | exact Or.inl ⟨rfl, hp2, by omega⟩ | exact Or.inr (Or.inl ⟨rfl, hp2⟩) | exact Or.inr (Or.inr ⟨rfl, hp2, by omega⟩)
    · refine lv_iconst (v := (nI 0)) hxe hcd dX0_faultOfNewFilter_19 (by decide) ?_
      refine lv_goto (tgt := 24) hxe hcd dX0_faultOfNewFilter_20 (by decide) ?_
      refine r_iret0 S hr hlk hW ?_ dX0_faultOfNewFilter_24
      first | exact Or.inl ⟨rfl, hp2, by omega⟩ | exact Or.inr (Or.inl ⟨rfl, hp2⟩) | exact Or.inr (Or.inr ⟨rfl, hp2, by omega⟩)
  · subst hp20
    refine lv_if_ne (tgt := 10) hxe hcd dX0_faultOfNewFilter_5 (by decide) (fun h => absurd h (by decide)) (fun _ => ?_)
    refine lv_iconst (v := (nI 2)) hxe hcd dX0_faultOfNewFilter_8 (by decide) ?_
    refine r_iret0 S hr hlk hW ?_ dX0_faultOfNewFilter_9
    first | exact Or.inl ⟨rfl, hp2, by omega⟩ | exact Or.inr (Or.inl ⟨rfl, hp2⟩) | exact Or.inr (Or.inr ⟨rfl, hp2, by omega⟩)
set_option maxHeartbeats 4000000 in
set_option maxRecDepth 100000 in
theorem t_X0_setFilter (l : Launch) {Z : ZT} (hZ : zOK Z) (A : Nat × Nat → Nat) (g : Nat → Bool) (μ : CM) (sz : Nat) {b : Nat} (hb : sB g b) (i k v : Int32) : XMv l yX0_setFilter cX0_setFilter 4 1 [.ref (A (b, 1)), .int i, .int k, .int v] Z (ids g) A (cE Z A g) μ sz (fun u => u = setF μ b i k v) := by
  refine r_met (E := (cE Z A g μ)) (by decide +kernel) (Nat.le_of_ble_eq_true rfl) ?_
  intro p e s m below meth c ls S hr hlk hnm hsz hW hl
  have hxe := S.1
  have hcd := S.2.1
  subst hsz
  have hl : lv_has ls 4 [(0, .ref (A (b, 1))), (1, .int i), (2, .int k), (3, .int v)] := hl
  refine lv_aload_n hxe hcd dX0_setFilter_0 rfl (lv_at hl 0 rfl) ?_
  refine gf_X0_9 S hW hb dX0_setFilter_1 ?_
  refine lv_iload_n hxe hcd dX0_setFilter_4 rfl (lv_at hl 1 rfl) ?_
  refine lv_iload_n hxe hcd dX0_setFilter_5 rfl (lv_at hl 2 rfl) ?_
  refine r_callv (F := (cE Z A g)) (r_runSN hZ S hW (As := [.ref (A (b, 2)), .int i, .int k]) (rest := []) (t_X9_write l hZ A g μ s.heap.size (b := b) (o := 2) (n := 8) rfl (in_s hb (by decide)) i k) k_X0_38 (hl.1) rfl rfl (Nat.le_of_ble_eq_true rfl) ⟨Nat.le_of_ble_eq_true rfl, Nat.le_of_ble_eq_true rfl⟩ ⟨Nat.le_of_ble_eq_true rfl, Nat.le_of_ble_eq_true rfl⟩ dX0_setFilter_6) hW (fun u6 H locs hp6 hW => ?_)
  have hp6 := hp6.symm
  subst hp6
  refine lv_aload_n hxe hcd dX0_setFilter_9 rfl (lv_at hl 0 rfl) ?_
  refine gf_X0_15 S hW hb dX0_setFilter_10 ?_
  refine lv_iload_n hxe hcd dX0_setFilter_13 rfl (lv_at hl 1 rfl) ?_
  refine lv_iload_n hxe hcd dX0_setFilter_14 rfl (lv_at hl 3 rfl) ?_
  refine r_callv (F := (cE Z A g)) (r_runSN hZ S hW (As := [.ref (A (b, 3)), .int i, .int v]) (rest := []) (t_X9_write l hZ A g (up2 μ b 2 (wr 8 (μ b 2) i k)) H.size (b := b) (o := 3) (n := 8) rfl (in_s hb (by decide)) i v) k_X0_38 (hl.1) rfl rfl (Nat.le_of_ble_eq_true rfl) ⟨Nat.le_of_ble_eq_true rfl, Nat.le_of_ble_eq_true rfl⟩ ⟨Nat.le_of_ble_eq_true rfl, Nat.le_of_ble_eq_true rfl⟩ dX0_setFilter_15) hW (fun u15 H locs hp15 hW => ?_)
  have hp15 := hp15.symm
  subst hp15
  refine r_vret S hr hlk (F := (cE Z A g)) (u := (up2 (up2 μ b 2 (wr 8 (μ b 2) i k)) b 3 (wr 8 ((up2 μ b 2 (wr 8 (μ b 2) i k)) b 3) i v))) hW ?_ dX0_setFilter_18
  rw [setF, up2_o (o2 := 3) (o := 2) (by decide)]
set_option maxHeartbeats 4000000 in
set_option maxRecDepth 100000 in
theorem t_X0_putFilter (l : Launch) {Z : ZT} (hZ : zOK Z) (A : Nat × Nat → Nat) (g : Nat → Bool) (μ : CM) (sz : Nat) {b : Nat} (hb : sB g b) {nf q : Nat} (hc : μ b 1 2 = nI nf) (hq : q ≤ nf) (h8 : nf < 8) (k x : Int32) : XMi l yX0_putFilter cX0_putFilter 5 (some .int) 2 [.ref (A (b, 1)), .int (nI q), .int k, .int x] Z (ids g) A (cE Z A g) μ sz (fun r u => r = nI (nf + 1) ∧ u = up2 (chM μ b (insR (μ b 2) q nf k) (insR (μ b 3) q nf x)) b 1 (upd (μ b 1) 2 (nI (nf + 1)))) := by
  refine r_met (E := (cE Z A g μ)) (by decide +kernel) (Nat.le_of_ble_eq_true rfl) ?_
  intro p e s m below meth c ls S hr hlk hnm hsz hW hl
  have hxe := S.1
  have hcd := S.2.1
  subst hsz
  have hl : lv_has ls 5 [(0, .ref (A (b, 1))), (1, .int (nI q)), (2, .int k), (3, .int x)] := hl
  refine lv_aload_n hxe hcd dX0_putFilter_0 rfl (lv_at hl 0 rfl) ?_
  refine gf_X0_18 S hW hb dX0_putFilter_1 ?_
  refine r_as (y := (nI nf)) (hc) ?_
  refine lv_istore (lv' := [(4, .int (nI nf)), (0, .ref (A (b, 1))), (1, .int (nI q)), (2, .int k), (3, .int x)]) hxe hcd dX0_putFilter_4 hl (by decide) rfl (fun ls hl => ?_)
  have loop6 : ∀ (n_ : Nat) (i : Nat), i < n_ → (q ≤ i) → (i ≤ nf) → ∀ (H : Heap) (locs : List Loc) (ls : Array Slot), wX Z (ids g) A (cE Z A g (chM μ b (shR (μ b 2) i nf) (shR (μ b 3) i nf))) (fA (ids g) A (cE Z A g μ) s.heap.size) s H locs → lv_has ls 5 [(0, .ref (A (b, 1))), (1, .int (nI q)), (2, .int k), (3, .int x), (4, .int (nI i))] → W p l e (rmD 2 0 0) s m ([.ref (A (b, 1)), .int (nI q), .int k, .int x] : List Value).toArray below meth c H locs 0 0 (MQ below (va_Qi (fun r u => r = nI (nf + 1) ∧ u = up2 (chM μ b (insR (μ b 2) q nf k) (insR (μ b 3) q nf x)) b 1 (upd (μ b 1) 2 (nI (nf + 1)))) (fun u t => qB Z (ids g) A ((cE Z A g) u) (fA (ids g) A (cE Z A g μ) s.heap.size) t) (fA (ids g) A (cE Z A g μ) s.heap.size)) ([.ref (A (b, 1)), .int (nI q), .int k, .int x] : List Value).toArray s 0 0 (fA (ids g) A (cE Z A g μ) s.heap.size)) (F0 m 6 ls []) := by
    intro n_
    induction n_ with
    | zero => intro i hm; exact absurd hm (Nat.not_lt_zero _)
    | succ n_ ih6 =>
      intro i hm hi hn H locs ls hW hl
      refine lv_iload hxe hcd dX0_putFilter_6 (lv_at hl 4 rfl) ?_
      refine lv_iload_n hxe hcd dX0_putFilter_8 rfl (lv_at hl 1 rfl) ?_
      refine n_le S (a := i) (b := q) (by omega) (by omega) dX0_putFilter_9 (tgt := 40) (by decide) (fun c9 => ?_) (fun c9 => ?_)
      · refine lv_aload_n hxe hcd dX0_putFilter_40 rfl (lv_at hl 0 rfl) ?_
        refine lv_iload_n hxe hcd dX0_putFilter_41 rfl (lv_at hl 1 rfl) ?_
        refine lv_iload_n hxe hcd dX0_putFilter_42 rfl (lv_at hl 2 rfl) ?_
        refine lv_iload_n hxe hcd dX0_putFilter_43 rfl (lv_at hl 3 rfl) ?_
        refine r_callv (F := (cE Z A g)) (r_runV hZ S hW (As := [.int (nI q), .int k, .int x]) (rest := []) (t_X0_setFilter l hZ A g (chM μ b (shR (μ b 2) i nf) (shR (μ b 3) i nf)) H.size hb (nI q) k x) k_X0_49 (r_recv hW (x := (b, 1)) (in_s hb (by decide)) rfl rfl) (hl.1) rfl rfl (Nat.le_of_ble_eq_true rfl) ⟨Nat.le_of_ble_eq_true rfl, Nat.le_of_ble_eq_true rfl⟩ ⟨Nat.le_of_ble_eq_true rfl, Nat.le_of_ble_eq_true rfl⟩ dX0_putFilter_44) hW (fun u44 H locs hp44 hW => ?_)
        have hp44 := hp44.symm
        subst hp44
        refine lv_aload_n hxe hcd dX0_putFilter_47 rfl (lv_at hl 0 rfl) ?_
        refine lv_dup hxe hcd dX0_putFilter_48 rfl ?_
        refine gf_X0_18 S hW hb dX0_putFilter_49 ?_
        refine r_as (y := (nI nf)) (by rw [chM_set, chM_1, hc]) ?_
        refine lv_iconst (v := (nI 1)) hxe hcd dX0_putFilter_52 (by decide) ?_
        refine n_iadd S (a := nf) (b := 1) dX0_putFilter_53 ?_
        refine gp_X0_18 S hW hb dX0_putFilter_54 (fun H locs hW => ?_)
        refine lv_aload_n hxe hcd dX0_putFilter_57 rfl (lv_at hl 0 rfl) ?_
        refine gf_X0_18 S hW hb dX0_putFilter_58 ?_
        refine r_as (y := (nI (nf + 1))) (by rw [up2_s, upd_s]) ?_
        refine r_iret S hr hlk (F := (cE Z A g)) (u := (up2 (setF (chM μ b (shR (μ b 2) i nf) (shR (μ b 3) i nf)) b (nI q) k x) b 1 (upd ((setF (chM μ b (shR (μ b 2) i nf) (shR (μ b 3) i nf)) b (nI q) k x) b 1) 2 (nI (nf + 1))))) hW ?_ dX0_putFilter_61
        have e : i = q := by omega
        rw [chM_set, e, wr_in (n := 8) (k := q) _ _ (by omega) (by omega), wr_in (n := 8) (k := q) _ _ (by omega) (by omega), insR_of _ hq, insR_of _ hq, chM_1]
        exact ⟨rfl, rfl⟩
      · refine lv_aload_n hxe hcd dX0_putFilter_12 rfl (lv_at hl 0 rfl) ?_
        refine lv_iload hxe hcd dX0_putFilter_13 (lv_at hl 4 rfl) ?_
        refine lv_aload_n hxe hcd dX0_putFilter_15 rfl (lv_at hl 0 rfl) ?_
        refine lv_iload hxe hcd dX0_putFilter_16 (lv_at hl 4 rfl) ?_
        refine lv_iconst (v := (nI 1)) hxe hcd dX0_putFilter_18 (by decide) ?_
        refine n_isub S (a := i) (b := 1) (by omega) dX0_putFilter_19 ?_
        refine r_calli0 (r_runV hZ S hW (As := [.int (nI (i - 1))]) (rest := [.int (nI i), .ref (A (b, 1))]) (t_X0_kindAt l hZ A g (chM μ b (shR (μ b 2) i nf) (shR (μ b 3) i nf)) H.size hb (nI (i - 1))) k_X0_42 (r_recv hW (x := (b, 1)) (in_s hb (by decide)) rfl rfl) (hl.1) rfl rfl (Nat.le_of_ble_eq_true rfl) ⟨Nat.le_of_ble_eq_true rfl, Nat.le_of_ble_eq_true rfl⟩ ⟨Nat.le_of_ble_eq_true rfl, Nat.le_of_ble_eq_true rfl⟩ dX0_putFilter_20) hW (fun r20 H locs hp20 hW => ?_)
        have hp20 := hp20.symm
        subst hp20
        refine lv_aload_n hxe hcd dX0_putFilter_23 rfl (lv_at hl 0 rfl) ?_
        refine lv_iload hxe hcd dX0_putFilter_24 (lv_at hl 4 rfl) ?_
        refine lv_iconst (v := (nI 1)) hxe hcd dX0_putFilter_26 (by decide) ?_
        refine n_isub S (a := i) (b := 1) (by omega) dX0_putFilter_27 ?_
        refine r_calli0 (r_runV hZ S hW (As := [.int (nI (i - 1))]) (rest := [.int (rd 8 ((chM μ b (shR (μ b 2) i nf) (shR (μ b 3) i nf)) b 2) (nI (i - 1))), .int (nI i), .ref (A (b, 1))]) (t_X0_parameterAt l hZ A g (chM μ b (shR (μ b 2) i nf) (shR (μ b 3) i nf)) H.size hb (nI (i - 1))) k_X0_46 (r_recv hW (x := (b, 1)) (in_s hb (by decide)) rfl rfl) (hl.1) rfl rfl (Nat.le_of_ble_eq_true rfl) ⟨Nat.le_of_ble_eq_true rfl, Nat.le_of_ble_eq_true rfl⟩ ⟨Nat.le_of_ble_eq_true rfl, Nat.le_of_ble_eq_true rfl⟩ dX0_putFilter_28) hW (fun r28 H locs hp28 hW => ?_)
        have hp28 := hp28.symm
        subst hp28
        refine r_callv (F := (cE Z A g)) (r_runV hZ S hW (As := [.int (nI i), .int (rd 8 ((chM μ b (shR (μ b 2) i nf) (shR (μ b 3) i nf)) b 2) (nI (i - 1))), .int (rd 8 ((chM μ b (shR (μ b 2) i nf) (shR (μ b 3) i nf)) b 3) (nI (i - 1)))]) (rest := []) (t_X0_setFilter l hZ A g (chM μ b (shR (μ b 2) i nf) (shR (μ b 3) i nf)) H.size hb (nI i) (rd 8 ((chM μ b (shR (μ b 2) i nf) (shR (μ b 3) i nf)) b 2) (nI (i - 1))) (rd 8 ((chM μ b (shR (μ b 2) i nf) (shR (μ b 3) i nf)) b 3) (nI (i - 1)))) k_X0_49 (r_recv hW (x := (b, 1)) (in_s hb (by decide)) rfl rfl) (hl.1) rfl rfl (Nat.le_of_ble_eq_true rfl) ⟨Nat.le_of_ble_eq_true rfl, Nat.le_of_ble_eq_true rfl⟩ ⟨Nat.le_of_ble_eq_true rfl, Nat.le_of_ble_eq_true rfl⟩ dX0_putFilter_31) hW (fun u31 H locs hp31 hW => ?_)
        have hp31 := hp31.symm
        subst hp31
        refine lv_iinc (v := (nI (i - 1))) (lv' := [(4, .int (nI (i - 1))), (0, .ref (A (b, 1))), (1, .int (nI q)), (2, .int k), (3, .int x)]) hxe hcd dX0_putFilter_34 hl (k := 4) rfl (n_dec (by omega)) (by decide) rfl (fun ls hl => ?_)
        refine lv_goto (tgt := 6) hxe hcd dX0_putFilter_37 (by decide) ?_
        exact ih6 (i - 1) (by omega) (by omega) (by omega) _ _ _ (by rw [← put_step μ b (by omega) hn h8]; exact hW) (lv_sub hl [1, 2, 3, 4, 0] rfl)
  exact loop6 (nf + 1) nf (Nat.lt_succ_self _) hq (Nat.le_refl _) _ _ _ (by rw [shR_n, shR_n, chM_id]; exact hW) (lv_sub hl [1, 2, 3, 4, 0] rfl)
set_option maxHeartbeats 4000000 in
set_option maxRecDepth 100000 in
theorem t_X0_takeFilter (l : Launch) {Z : ZT} (hZ : zOK Z) (A : Nat × Nat → Nat) (g : Nat → Bool) (μ : CM) (sz : Nat) {b : Nat} (hb : sB g b) {nf q : Nat} (hc : μ b 1 2 = nI nf) (hq : q < nf) (h8 : nf ≤ 8) : XMi l yX0_takeFilter cX0_takeFilter 4 (some .int) 2 [.ref (A (b, 1)), .int (nI q)] Z (ids g) A (cE Z A g) μ sz (fun r u => r = μ b 3 q ∧ u = up2 (chM μ b (slR (μ b 2) q (nf - 1)) (slR (μ b 3) q (nf - 1))) b 1 (upd (μ b 1) 2 (nI (nf - 1)))) := by
  refine r_met (E := (cE Z A g μ)) (by decide +kernel) (Nat.le_of_ble_eq_true rfl) ?_
  intro p e s m below meth c ls S hr hlk hnm hsz hW hl
  have hxe := S.1
  have hcd := S.2.1
  subst hsz
  have hl : lv_has ls 4 [(0, .ref (A (b, 1))), (1, .int (nI q))] := hl
  refine lv_aload_n hxe hcd dX0_takeFilter_0 rfl (lv_at hl 0 rfl) ?_
  refine lv_iload_n hxe hcd dX0_takeFilter_1 rfl (lv_at hl 1 rfl) ?_
  refine r_calli0 (r_runV hZ S hW (As := [.int (nI q)]) (rest := []) (t_X0_parameterAt l hZ A g μ s.heap.size hb (nI q)) k_X0_46 (r_recv hW (x := (b, 1)) (in_s hb (by decide)) rfl rfl) (hl.1) rfl rfl (Nat.le_of_ble_eq_true rfl) ⟨Nat.le_of_ble_eq_true rfl, Nat.le_of_ble_eq_true rfl⟩ ⟨Nat.le_of_ble_eq_true rfl, Nat.le_of_ble_eq_true rfl⟩ dX0_takeFilter_2) hW (fun r2 H locs hp2 hW => ?_)
  have hp2 := hp2.symm
  subst hp2
  refine lv_istore_n (lv' := [(2, .int (rd 8 (μ b 3) (nI q))), (0, .ref (A (b, 1))), (1, .int (nI q))]) hxe hcd dX0_takeFilter_5 rfl hl (by decide) rfl (fun ls hl => ?_)
  refine lv_aload_n hxe hcd dX0_takeFilter_6 rfl (lv_at hl 1 rfl) ?_
  refine lv_dup hxe hcd dX0_takeFilter_7 rfl ?_
  refine gf_X0_18 S hW hb dX0_takeFilter_8 ?_
  refine r_as (y := (nI nf)) (hc) ?_
  refine lv_iconst (v := (nI 1)) hxe hcd dX0_takeFilter_11 (by decide) ?_
  refine n_isub S (a := nf) (b := 1) (by omega) dX0_takeFilter_12 ?_
  refine gp_X0_18 S hW hb dX0_takeFilter_13 (fun H locs hW => ?_)
  refine lv_iload_n hxe hcd dX0_takeFilter_16 rfl (lv_at hl 2 rfl) ?_
  refine lv_istore_n (lv' := [(3, .int (nI q)), (2, .int (rd 8 (μ b 3) (nI q))), (0, .ref (A (b, 1))), (1, .int (nI q))]) hxe hcd dX0_takeFilter_17 rfl hl (by decide) rfl (fun ls hl => ?_)
  have loop18 : ∀ (n_ : Nat) (i : Nat), nf - 1 - i < n_ → (q ≤ i) → (i ≤ nf - 1) → ∀ (H : Heap) (locs : List Loc) (ls : Array Slot), wX Z (ids g) A (cE Z A g (chM (up2 μ b 1 (upd (μ b 1) 2 (nI (nf - 1)))) b (slR (μ b 2) q i) (slR (μ b 3) q i))) (fA (ids g) A (cE Z A g μ) s.heap.size) s H locs → lv_has ls 4 [(0, .ref (A (b, 1))), (1, .int (nI q)), (2, .int (rd 8 (μ b 3) (nI q))), (3, .int (nI i))] → W p l e (rmD 2 0 0) s m ([.ref (A (b, 1)), .int (nI q)] : List Value).toArray below meth c H locs 0 0 (MQ below (va_Qi (fun r u => r = μ b 3 q ∧ u = up2 (chM μ b (slR (μ b 2) q (nf - 1)) (slR (μ b 3) q (nf - 1))) b 1 (upd (μ b 1) 2 (nI (nf - 1)))) (fun u t => qB Z (ids g) A ((cE Z A g) u) (fA (ids g) A (cE Z A g μ) s.heap.size) t) (fA (ids g) A (cE Z A g μ) s.heap.size)) ([.ref (A (b, 1)), .int (nI q)] : List Value).toArray s 0 0 (fA (ids g) A (cE Z A g μ) s.heap.size)) (F0 m 18 ls []) := by
    intro n_
    induction n_ with
    | zero => intro i hm; exact absurd hm (Nat.not_lt_zero _)
    | succ n_ ih18 =>
      intro i hm hi hn H locs ls hW hl
      refine lv_iload_n hxe hcd dX0_takeFilter_18 rfl (lv_at hl 3 rfl) ?_
      refine lv_aload_n hxe hcd dX0_takeFilter_19 rfl (lv_at hl 0 rfl) ?_
      refine gf_X0_18 S hW hb dX0_takeFilter_20 ?_
      refine r_as (y := (nI (nf - 1))) (by rw [chM_1, up2_s, upd_s]) ?_
      refine n_ge S (a := i) (b := (nf - 1)) (by omega) (by omega) dX0_takeFilter_23 (tgt := 51) (by decide) (fun c23 => ?_) (fun c23 => ?_)
      · refine lv_iload_n hxe hcd dX0_takeFilter_51 rfl (lv_at hl 2 rfl) ?_
        refine r_iret S hr hlk (F := (cE Z A g)) (u := (chM (up2 μ b 1 (upd (μ b 1) 2 (nI (nf - 1)))) b (slR (μ b 2) q i) (slR (μ b 3) q i))) hW ?_ dX0_takeFilter_52
        have e : i = nf - 1 := by omega
        rw [e, rd_in (n := 8) (k := q) _ (by omega) (by omega)]
        refine ⟨rfl, ?_⟩
        unfold chM
        rw [up2_c (o := 1) (o2 := 2) (by decide), up2_c (o := 1) (o2 := 3) (by decide)]
      · refine lv_aload_n hxe hcd dX0_takeFilter_26 rfl (lv_at hl 0 rfl) ?_
        refine lv_iload_n hxe hcd dX0_takeFilter_27 rfl (lv_at hl 3 rfl) ?_
        refine lv_aload_n hxe hcd dX0_takeFilter_28 rfl (lv_at hl 0 rfl) ?_
        refine lv_iload_n hxe hcd dX0_takeFilter_29 rfl (lv_at hl 3 rfl) ?_
        refine lv_iconst (v := (nI 1)) hxe hcd dX0_takeFilter_30 (by decide) ?_
        refine n_iadd S (a := i) (b := 1) dX0_takeFilter_31 ?_
        refine r_calli0 (r_runV hZ S hW (As := [.int (nI (i + 1))]) (rest := [.int (nI i), .ref (A (b, 1))]) (t_X0_kindAt l hZ A g (chM (up2 μ b 1 (upd (μ b 1) 2 (nI (nf - 1)))) b (slR (μ b 2) q i) (slR (μ b 3) q i)) H.size hb (nI (i + 1))) k_X0_42 (r_recv hW (x := (b, 1)) (in_s hb (by decide)) rfl rfl) (hl.1) rfl rfl (Nat.le_of_ble_eq_true rfl) ⟨Nat.le_of_ble_eq_true rfl, Nat.le_of_ble_eq_true rfl⟩ ⟨Nat.le_of_ble_eq_true rfl, Nat.le_of_ble_eq_true rfl⟩ dX0_takeFilter_32) hW (fun r32 H locs hp32 hW => ?_)
        have hp32 := hp32.symm
        subst hp32
        refine lv_aload_n hxe hcd dX0_takeFilter_35 rfl (lv_at hl 0 rfl) ?_
        refine lv_iload_n hxe hcd dX0_takeFilter_36 rfl (lv_at hl 3 rfl) ?_
        refine lv_iconst (v := (nI 1)) hxe hcd dX0_takeFilter_37 (by decide) ?_
        refine n_iadd S (a := i) (b := 1) dX0_takeFilter_38 ?_
        refine r_calli0 (r_runV hZ S hW (As := [.int (nI (i + 1))]) (rest := [.int (rd 8 ((chM (up2 μ b 1 (upd (μ b 1) 2 (nI (nf - 1)))) b (slR (μ b 2) q i) (slR (μ b 3) q i)) b 2) (nI (i + 1))), .int (nI i), .ref (A (b, 1))]) (t_X0_parameterAt l hZ A g (chM (up2 μ b 1 (upd (μ b 1) 2 (nI (nf - 1)))) b (slR (μ b 2) q i) (slR (μ b 3) q i)) H.size hb (nI (i + 1))) k_X0_46 (r_recv hW (x := (b, 1)) (in_s hb (by decide)) rfl rfl) (hl.1) rfl rfl (Nat.le_of_ble_eq_true rfl) ⟨Nat.le_of_ble_eq_true rfl, Nat.le_of_ble_eq_true rfl⟩ ⟨Nat.le_of_ble_eq_true rfl, Nat.le_of_ble_eq_true rfl⟩ dX0_takeFilter_39) hW (fun r39 H locs hp39 hW => ?_)
        have hp39 := hp39.symm
        subst hp39
        refine r_callv (F := (cE Z A g)) (r_runV hZ S hW (As := [.int (nI i), .int (rd 8 ((chM (up2 μ b 1 (upd (μ b 1) 2 (nI (nf - 1)))) b (slR (μ b 2) q i) (slR (μ b 3) q i)) b 2) (nI (i + 1))), .int (rd 8 ((chM (up2 μ b 1 (upd (μ b 1) 2 (nI (nf - 1)))) b (slR (μ b 2) q i) (slR (μ b 3) q i)) b 3) (nI (i + 1)))]) (rest := []) (t_X0_setFilter l hZ A g (chM (up2 μ b 1 (upd (μ b 1) 2 (nI (nf - 1)))) b (slR (μ b 2) q i) (slR (μ b 3) q i)) H.size hb (nI i) (rd 8 ((chM (up2 μ b 1 (upd (μ b 1) 2 (nI (nf - 1)))) b (slR (μ b 2) q i) (slR (μ b 3) q i)) b 2) (nI (i + 1))) (rd 8 ((chM (up2 μ b 1 (upd (μ b 1) 2 (nI (nf - 1)))) b (slR (μ b 2) q i) (slR (μ b 3) q i)) b 3) (nI (i + 1)))) k_X0_49 (r_recv hW (x := (b, 1)) (in_s hb (by decide)) rfl rfl) (hl.1) rfl rfl (Nat.le_of_ble_eq_true rfl) ⟨Nat.le_of_ble_eq_true rfl, Nat.le_of_ble_eq_true rfl⟩ ⟨Nat.le_of_ble_eq_true rfl, Nat.le_of_ble_eq_true rfl⟩ dX0_takeFilter_42) hW (fun u42 H locs hp42 hW => ?_)
        have hp42 := hp42.symm
        subst hp42
        refine lv_iinc (v := (nI (i + 1))) (lv' := [(3, .int (nI (i + 1))), (0, .ref (A (b, 1))), (1, .int (nI q)), (2, .int (rd 8 (μ b 3) (nI q)))]) hxe hcd dX0_takeFilter_45 hl (k := 3) rfl (nI_add i 1) (by decide) rfl (fun ls hl => ?_)
        refine lv_goto (tgt := 18) hxe hcd dX0_takeFilter_48 (by decide) ?_
        exact ih18 (i + 1) (by omega) (by omega) (by omega) _ _ _ (by have e2 := take_step (up2 μ b 1 (upd (μ b 1) 2 (nI (nf - 1)))) b hi (by omega); rw [up2_o (o2 := 2) (o := 1) (by decide), up2_o (o2 := 3) (o := 1) (by decide)] at e2; rw [← e2]; exact hW) (lv_sub hl [1, 2, 3, 0] rfl)
  exact loop18 ((nf - 1 - q) + 1) q (Nat.lt_succ_self _) (Nat.le_refl _) (by omega) _ _ _ (by rw [slR_0, slR_0]; rw [← chM_id (up2 μ b 1 (upd (μ b 1) 2 (nI (nf - 1)))) b, up2_o (o2 := 2) (o := 1) (by decide), up2_o (o2 := 3) (o := 1) (by decide)] at hW; exact hW) (lv_sub hl [2, 3, 1, 0] rfl)
set_option maxHeartbeats 4000000 in
set_option maxRecDepth 100000 in
theorem t_X0_exchange (l : Launch) {Z : ZT} (hZ : zOK Z) (A : Nat × Nat → Nat) (g : Nat → Bool) (μ : CM) (sz : Nat) {b : Nat} (hb : sB g b) (i j : Int32) : XMv l yX0_exchange cX0_exchange 5 2 [.ref (A (b, 1)), .int i, .int j] Z (ids g) A (cE Z A g) μ sz (fun u => u = setF (setF μ b i (rd 8 (μ b 2) j) (rd 8 (μ b 3) j)) b j (rd 8 (μ b 2) i) (rd 8 (μ b 3) i)) := by
  refine r_met (E := (cE Z A g μ)) (by decide +kernel) (Nat.le_of_ble_eq_true rfl) ?_
  intro p e s m below meth c ls S hr hlk hnm hsz hW hl
  have hxe := S.1
  have hcd := S.2.1
  subst hsz
  have hl : lv_has ls 5 [(0, .ref (A (b, 1))), (1, .int i), (2, .int j)] := hl
  refine lv_aload_n hxe hcd dX0_exchange_0 rfl (lv_at hl 0 rfl) ?_
  refine lv_iload_n hxe hcd dX0_exchange_1 rfl (lv_at hl 1 rfl) ?_
  refine r_calli0 (r_runV hZ S hW (As := [.int i]) (rest := []) (t_X0_kindAt l hZ A g μ s.heap.size hb i) k_X0_42 (r_recv hW (x := (b, 1)) (in_s hb (by decide)) rfl rfl) (hl.1) rfl rfl (Nat.le_of_ble_eq_true rfl) ⟨Nat.le_of_ble_eq_true rfl, Nat.le_of_ble_eq_true rfl⟩ ⟨Nat.le_of_ble_eq_true rfl, Nat.le_of_ble_eq_true rfl⟩ dX0_exchange_2) hW (fun r2 H locs hp2 hW => ?_)
  have hp2 := hp2.symm
  subst hp2
  refine lv_istore_n (lv' := [(3, .int (rd 8 (μ b 2) i)), (0, .ref (A (b, 1))), (1, .int i), (2, .int j)]) hxe hcd dX0_exchange_5 rfl hl (by decide) rfl (fun ls hl => ?_)
  refine lv_aload_n hxe hcd dX0_exchange_6 rfl (lv_at hl 1 rfl) ?_
  refine lv_iload_n hxe hcd dX0_exchange_7 rfl (lv_at hl 2 rfl) ?_
  refine r_calli0 (r_runV hZ S hW (As := [.int i]) (rest := []) (t_X0_parameterAt l hZ A g μ H.size hb i) k_X0_46 (r_recv hW (x := (b, 1)) (in_s hb (by decide)) rfl rfl) (hl.1) rfl rfl (Nat.le_of_ble_eq_true rfl) ⟨Nat.le_of_ble_eq_true rfl, Nat.le_of_ble_eq_true rfl⟩ ⟨Nat.le_of_ble_eq_true rfl, Nat.le_of_ble_eq_true rfl⟩ dX0_exchange_8) hW (fun r8 H locs hp8 hW => ?_)
  have hp8 := hp8.symm
  subst hp8
  refine lv_istore (lv' := [(4, .int (rd 8 (μ b 3) i)), (3, .int (rd 8 (μ b 2) i)), (0, .ref (A (b, 1))), (1, .int i), (2, .int j)]) hxe hcd dX0_exchange_11 hl (by decide) rfl (fun ls hl => ?_)
  refine lv_aload_n hxe hcd dX0_exchange_13 rfl (lv_at hl 2 rfl) ?_
  refine lv_iload_n hxe hcd dX0_exchange_14 rfl (lv_at hl 3 rfl) ?_
  refine lv_aload_n hxe hcd dX0_exchange_15 rfl (lv_at hl 2 rfl) ?_
  refine lv_iload_n hxe hcd dX0_exchange_16 rfl (lv_at hl 4 rfl) ?_
  refine r_calli0 (r_runV hZ S hW (As := [.int j]) (rest := [.int i, .ref (A (b, 1))]) (t_X0_kindAt l hZ A g μ H.size hb j) k_X0_42 (r_recv hW (x := (b, 1)) (in_s hb (by decide)) rfl rfl) (hl.1) rfl rfl (Nat.le_of_ble_eq_true rfl) ⟨Nat.le_of_ble_eq_true rfl, Nat.le_of_ble_eq_true rfl⟩ ⟨Nat.le_of_ble_eq_true rfl, Nat.le_of_ble_eq_true rfl⟩ dX0_exchange_17) hW (fun r17 H locs hp17 hW => ?_)
  have hp17 := hp17.symm
  subst hp17
  refine lv_aload_n hxe hcd dX0_exchange_20 rfl (lv_at hl 2 rfl) ?_
  refine lv_iload_n hxe hcd dX0_exchange_21 rfl (lv_at hl 4 rfl) ?_
  refine r_calli0 (r_runV hZ S hW (As := [.int j]) (rest := [.int (rd 8 (μ b 2) j), .int i, .ref (A (b, 1))]) (t_X0_parameterAt l hZ A g μ H.size hb j) k_X0_46 (r_recv hW (x := (b, 1)) (in_s hb (by decide)) rfl rfl) (hl.1) rfl rfl (Nat.le_of_ble_eq_true rfl) ⟨Nat.le_of_ble_eq_true rfl, Nat.le_of_ble_eq_true rfl⟩ ⟨Nat.le_of_ble_eq_true rfl, Nat.le_of_ble_eq_true rfl⟩ dX0_exchange_22) hW (fun r22 H locs hp22 hW => ?_)
  have hp22 := hp22.symm
  subst hp22
  refine r_callv (F := (cE Z A g)) (r_runV hZ S hW (As := [.int i, .int (rd 8 (μ b 2) j), .int (rd 8 (μ b 3) j)]) (rest := []) (t_X0_setFilter l hZ A g μ H.size hb i (rd 8 (μ b 2) j) (rd 8 (μ b 3) j)) k_X0_49 (r_recv hW (x := (b, 1)) (in_s hb (by decide)) rfl rfl) (hl.1) rfl rfl (Nat.le_of_ble_eq_true rfl) ⟨Nat.le_of_ble_eq_true rfl, Nat.le_of_ble_eq_true rfl⟩ ⟨Nat.le_of_ble_eq_true rfl, Nat.le_of_ble_eq_true rfl⟩ dX0_exchange_25) hW (fun u25 H locs hp25 hW => ?_)
  have hp25 := hp25.symm
  subst hp25
  refine lv_aload_n hxe hcd dX0_exchange_28 rfl (lv_at hl 2 rfl) ?_
  refine lv_iload_n hxe hcd dX0_exchange_29 rfl (lv_at hl 4 rfl) ?_
  refine lv_iload_n hxe hcd dX0_exchange_30 rfl (lv_at hl 1 rfl) ?_
  refine lv_iload hxe hcd dX0_exchange_31 (lv_at hl 0 rfl) ?_
  refine r_callv (F := (cE Z A g)) (r_runV hZ S hW (As := [.int j, .int (rd 8 (μ b 2) i), .int (rd 8 (μ b 3) i)]) (rest := []) (t_X0_setFilter l hZ A g (setF μ b i (rd 8 (μ b 2) j) (rd 8 (μ b 3) j)) H.size hb j (rd 8 (μ b 2) i) (rd 8 (μ b 3) i)) k_X0_49 (r_recv hW (x := (b, 1)) (in_s hb (by decide)) rfl rfl) (hl.1) rfl rfl (Nat.le_of_ble_eq_true rfl) ⟨Nat.le_of_ble_eq_true rfl, Nat.le_of_ble_eq_true rfl⟩ ⟨Nat.le_of_ble_eq_true rfl, Nat.le_of_ble_eq_true rfl⟩ dX0_exchange_33) hW (fun u33 H locs hp33 hW => ?_)
  have hp33 := hp33.symm
  subst hp33
  refine r_vret S hr hlk (F := (cE Z A g)) (u := (setF (setF μ b i (rd 8 (μ b 2) j) (rd 8 (μ b 3) j)) b j (rd 8 (μ b 2) i) (rd 8 (μ b 3) i))) hW ?_ dX0_exchange_36
  rfl
