set_option maxHeartbeats 4000000 in
set_option maxRecDepth 100000 in
theorem t_X10_mean (l : Launch) {Z : ZT} (hZ : zOK Z) (B : Nat → Nat) (ν : MM) (sz : Nat) {i P : Nat} (hi : i < 160) (hP1 : 1 ≤ P) (hP : P ≤ 8) : XCi l yX10_mean cX10_mean 5 (some .int) 0 [.ref (B 0), .int (nI i), .int (nI P)] Z mds B (mE Z B ν) sz (fun r => r = msum (ν 7) i P / nI P) := by
  refine r_met (E := (mE Z B ν)) (by decide +kernel) (Nat.le_of_ble_eq_true rfl) ?_
  intro p e s m below meth c ls S hr hlk hnm hsz hW hl
  have hxe := S.1
  have hcd := S.2.1
  subst hsz
  have hl : lv_has ls 5 [(0, .ref (B 0)), (1, .int (nI i)), (2, .int (nI P))] := hl
  refine lv_iconst (v := (nI 0)) hxe hcd dX10_mean_0 (by decide) ?_
  refine lv_istore_n (lv' := [(3, .int (nI 0)), (0, .ref (B 0)), (1, .int (nI i)), (2, .int (nI P))]) hxe hcd dX10_mean_1 rfl hl (by decide) rfl (fun ls hl => ?_)
  refine lv_iload_n hxe hcd dX10_mean_2 rfl (lv_at hl 2 rfl) ?_
  refine lv_istore (lv' := [(4, .int (nI i)), (3, .int (nI 0)), (0, .ref (B 0)), (1, .int (nI i)), (2, .int (nI P))]) hxe hcd dX10_mean_3 hl (by decide) rfl (fun ls hl => ?_)
  have hl : lv_has ls 5 [(4, .int (nI i - nI 0)), (3, .int (msum (ν 7) i 0)), (0, .ref (B 0)), (1, .int (nI i)), (2, .int (nI P))] := by rw [pk_sub (Nat.zero_le i), Nat.sub_zero]; exact hl
  have loop5 : ∀ (n_ : Nat) (t : Nat), i + 1 - t < n_ → (t ≤ P) → (t ≤ i + 1) → ∀ (H : Heap) (locs : List Loc) (ls : Array Slot), wX Z mds B (mE Z B ν) (fA mds B (mE Z B ν) s.heap.size) s H locs → lv_has ls 5 [(0, .ref (B 0)), (1, .int (nI i)), (2, .int (nI P)), (3, .int (msum (ν 7) i t)), (4, .int (nI i - nI t))] → W p l e (rmD 0 0 0) s m ([.ref (B 0), .int (nI i), .int (nI P)] : List Value).toArray below meth c H locs 0 0 (MQ below (va_Qi (fun r (_ : Unit) => (fun r => r = msum (ν 7) i P / nI P) r) (fun _ t => qB Z mds B (mE Z B ν) (fA mds B (mE Z B ν) s.heap.size) t) (fA mds B (mE Z B ν) s.heap.size)) ([.ref (B 0), .int (nI i), .int (nI P)] : List Value).toArray s 0 0 (fA mds B (mE Z B ν) s.heap.size)) (F0 m 5 ls []) := by
    intro n_
    induction n_ with
    | zero => intro t hm; exact absurd hm (Nat.not_lt_zero _)
    | succ n_ ih5 =>
      intro t hm ht ht2 H locs ls hW hl
      rcases (show t = i + 1 ∨ (t ≤ i ∧ t = P) ∨ (t ≤ i ∧ t < P) by omega) with hca | hca | hca
      · rw [hca, dec_e] at hl
        refine lv_iload hxe hcd dX10_mean_5 (lv_at hl 4 rfl) ?_
        refine lv_if_lt (tgt := 34) hxe hcd dX10_mean_7 (by decide) (fun _ => ?_) (fun h => absurd (by decide) h)
        refine lv_iload_n hxe hcd dX10_mean_34 rfl (lv_at hl 3 rfl) ?_
        refine lv_iload_n hxe hcd dX10_mean_35 rfl (lv_at hl 2 rfl) ?_
        refine lv_idiv hxe hcd dX10_mean_36 (nI_ne0 (by omega) (by omega)) ?_
        refine r_iret0 S hr hlk hW ?_ dX10_mean_37
        rw [msum_big (show i < t by omega) ht, hca]
      · rw [pk_sub hca.1] at hl
        refine lv_iload hxe hcd dX10_mean_5 (lv_at hl 4 rfl) ?_
        refine lv_if_lt (tgt := 34) hxe hcd dX10_mean_7 (by decide) (fun c7 => absurd c7 (nI_pos (by omega))) (fun c7 => ?_)
        refine lv_iload hxe hcd dX10_mean_10 (lv_at hl 4 rfl) ?_
        refine lv_iload_n hxe hcd dX10_mean_12 rfl (lv_at hl 1 rfl) ?_
        refine lv_iload_n hxe hcd dX10_mean_13 rfl (lv_at hl 2 rfl) ?_
        refine lv_isub hxe hcd dX10_mean_14 ?_
        refine lv_icmp_le (tgt := 34) hxe hcd dX10_mean_15 (by decide) (fun c15 => ?_) (fun c15 => absurd (by rw [hca.2]; exact mean_e (by omega)) c15)
        refine lv_iload_n hxe hcd dX10_mean_34 rfl (lv_at hl 3 rfl) ?_
        refine lv_iload_n hxe hcd dX10_mean_35 rfl (lv_at hl 2 rfl) ?_
        refine lv_idiv hxe hcd dX10_mean_36 (nI_ne0 (by omega) (by omega)) ?_
        refine r_iret0 S hr hlk hW ?_ dX10_mean_37
        rw [hca.2]
      · rw [pk_sub hca.1] at hl
        refine lv_iload hxe hcd dX10_mean_5 (lv_at hl 4 rfl) ?_
        refine lv_if_lt (tgt := 34) hxe hcd dX10_mean_7 (by decide) (fun c7 => absurd c7 (nI_pos (by omega))) (fun c7 => ?_)
        refine lv_iload hxe hcd dX10_mean_10 (lv_at hl 4 rfl) ?_
        refine lv_iload_n hxe hcd dX10_mean_12 rfl (lv_at hl 1 rfl) ?_
        refine lv_iload_n hxe hcd dX10_mean_13 rfl (lv_at hl 2 rfl) ?_
        refine lv_isub hxe hcd dX10_mean_14 ?_
        refine lv_icmp_le (tgt := 34) hxe hcd dX10_mean_15 (by decide) (fun c15 => absurd c15 (mean_c hca.2 hca.1 (by omega) (by omega))) (fun c15 => ?_)
        refine lv_iload_n hxe hcd dX10_mean_18 rfl (lv_at hl 3 rfl) ?_
        refine lv_aload_n hxe hcd dX10_mean_19 rfl (lv_at hl 0 rfl) ?_
        refine gf_X10_35 S hW dX10_mean_20 ?_
        refine lv_iload hxe hcd dX10_mean_23 (lv_at hl 4 rfl) ?_
        refine gm_ald S hW (i := 7) (k := (i - t)) (n := 160) (by decide) (by decide) rfl (by omega) dX10_mean_25 ?_
        refine lv_iadd hxe hcd dX10_mean_26 ?_
        refine lv_istore_n (lv' := [(3, .int ((msum (ν 7) i t) + (ν 7 (i - t)))), (0, .ref (B 0)), (1, .int (nI i)), (2, .int (nI P)), (4, .int (nI (i - t)))]) hxe hcd dX10_mean_27 rfl hl (by decide) rfl (fun ls hl => ?_)
        refine lv_iinc (v := ((nI (i - t)) - (nI 1))) (lv' := [(4, .int ((nI (i - t)) - (nI 1))), (3, .int ((msum (ν 7) i t) + (ν 7 (i - t)))), (0, .ref (B 0)), (1, .int (nI i)), (2, .int (nI P))]) hxe hcd dX10_mean_28 hl (k := 4) rfl (inc_m1 _) (by decide) rfl (fun ls hl => ?_)
        refine lv_goto (tgt := 5) hxe hcd dX10_mean_31 (by decide) ?_
        have hl : lv_has ls 5 [(4, .int (nI i - nI (t + 1))), (3, .int (msum (ν 7) i (t + 1))), (0, .ref (B 0)), (1, .int (nI i)), (2, .int (nI P))] := by
          rw [← dec_c hca.1, msum, if_pos hca.1]
          exact lv_sub hl [0, 1, 2, 3, 4] rfl
        exact ih5 (t + 1) (by omega) (by omega) (by omega) _ _ _ hW (lv_sub hl [2, 3, 4, 1, 0] rfl)
  exact loop5 ((i + 1) + 1) 0 (Nat.lt_succ_self _) (Nat.zero_le _) (Nat.zero_le _) _ _ _ hW (lv_sub hl [2, 3, 4, 1, 0] rfl)
set_option maxHeartbeats 4000000 in
set_option maxRecDepth 100000 in
theorem t_X10_passes (l : Launch) {Z : ZT} (hZ : zOK Z) (B : Nat → Nat) (ν : MM) (sz : Nat) {P i : Nat} (k : Int32) (hP9 : P ≤ 999) (hKP : KP k (nI P)) (hi : i < 160) : XCi l yX10_passes cX10_passes 5 (some .int) 1 [.ref (B 0), .int k, .int (nI P), .int (nI i)] Z mds B (mE Z B ν) sz (fun r => r = fpass k (nI P) (ν 7) i) := by
  refine r_met (E := (mE Z B ν)) (by decide +kernel) (Nat.le_of_ble_eq_true rfl) ?_
  intro p e s m below meth c ls S hr hlk hnm hsz hW hl
  have hxe := S.1
  have hcd := S.2.1
  subst hsz
  have hl : lv_has ls 5 [(0, .ref (B 0)), (1, .int k), (2, .int (nI P)), (3, .int (nI i))] := hl
  refine lv_aload_n hxe hcd dX10_passes_0 rfl (lv_at hl 0 rfl) ?_
  refine gf_X10_35 S hW dX10_passes_1 ?_
  refine lv_iload_n hxe hcd dX10_passes_4 rfl (lv_at hl 3 rfl) ?_
  refine gm_ald S hW (i := 7) (k := i) (n := 160) (by decide) (by decide) rfl (by omega) dX10_passes_5 ?_
  refine lv_istore (lv' := [(4, .int (ν 7 i)), (0, .ref (B 0)), (1, .int k), (2, .int (nI P)), (3, .int (nI i))]) hxe hcd dX10_passes_6 hl (by decide) rfl (fun ls hl => ?_)
  refine lv_iload_n hxe hcd dX10_passes_8 rfl (lv_at hl 2 rfl) ?_
  by_cases e9_99 : k = nI 99
  · subst e9_99
    refine lv_tableIn (tgt := 101) hxe hcd dX10_passes_9 (by decide) (by decide) (by first | rfl | decide) (by decide) ?_
    have hd := nI_rngs (lo := 1) (hi := 999) (by omega) (by decide) (by decide) (KP_99.mp hKP)
    refine lv_iload hxe hcd dX10_passes_101 (lv_at hl 0 rfl) ?_
    refine lv_iload_n hxe hcd dX10_passes_103 rfl (lv_at hl 3 rfl) ?_
    refine lv_icmp_le (tgt := 111) hxe hcd dX10_passes_104 (by decide) (fun c104 => ?_) (fun c104 => ?_)
    · refine lv_iload hxe hcd dX10_passes_111 (lv_at hl 0 rfl) ?_
      refine lv_iload_n hxe hcd dX10_passes_113 rfl (lv_at hl 3 rfl) ?_
      refine lv_ineg hxe hcd dX10_passes_114 ?_
      refine lv_icmp_ge (tgt := 123) hxe hcd dX10_passes_115 (by decide) (fun c115 => ?_) (fun c115 => ?_)
      · refine lv_iload hxe hcd dX10_passes_123 (lv_at hl 0 rfl) ?_
        refine r_iret0 S hr hlk hW ?_ dX10_passes_125
        rw [fpass, if_neg (by decide), if_neg (by decide), chg, if_neg (by decide), if_pos rfl, ← clip_eq (by omega) (by omega), if_neg (I_nlt.mpr c104), if_neg (I_nlt.mpr c115)]
      · refine lv_iload_n hxe hcd dX10_passes_118 rfl (lv_at hl 3 rfl) ?_
        refine lv_ineg hxe hcd dX10_passes_119 ?_
        refine lv_goto (tgt := 125) hxe hcd dX10_passes_120 (by decide) ?_
        refine r_iret0 S hr hlk hW ?_ dX10_passes_125
        rw [fpass, if_neg (by decide), if_neg (by decide), chg, if_neg (by decide), if_pos rfl, ← clip_eq (by omega) (by omega), if_neg (I_nlt.mpr c104), if_pos (I_nle.mp c115)]
    · refine lv_iload_n hxe hcd dX10_passes_107 rfl (lv_at hl 3 rfl) ?_
      refine lv_goto (tgt := 125) hxe hcd dX10_passes_108 (by decide) ?_
      refine r_iret0 S hr hlk hW ?_ dX10_passes_125
      rw [fpass, if_neg (by decide), if_neg (by decide), chg, if_neg (by decide), if_pos rfl, ← clip_eq (by omega) (by omega), if_pos (I_nle.mp c104)]
  by_cases e9_100 : k = nI 100
  · subst e9_100
    refine lv_tableIn (tgt := 76) hxe hcd dX10_passes_9 (by decide) (by decide) (by first | rfl | decide) (by decide) ?_
    have hd := KP_d hP9 hKP
    refine lv_iload_n hxe hcd dX10_passes_76 rfl (lv_at hl 4 rfl) ?_
    refine lv_iload_n hxe hcd dX10_passes_77 rfl (lv_at hl 3 rfl) ?_
    refine n_ge S (a := i) (b := P) (by omega) (by omega) dX10_passes_78 (tgt := 85) (by decide) (fun c78 => ?_) (fun c78 => ?_)
    · refine lv_aload_n hxe hcd dX10_passes_85 rfl (lv_at hl 1 rfl) ?_
      refine gf_X10_35 S hW dX10_passes_86 ?_
      refine lv_iload_n hxe hcd dX10_passes_89 rfl (lv_at hl 4 rfl) ?_
      refine lv_iload_n hxe hcd dX10_passes_90 rfl (lv_at hl 3 rfl) ?_
      refine n_isub S (a := i) (b := P) (by omega) dX10_passes_91 ?_
      refine gm_ald S hW (i := 7) (k := (i - P)) (n := 160) (by decide) (by decide) rfl (by omega) dX10_passes_92 ?_
      refine r_iret0 S hr hlk hW ?_ dX10_passes_93
      rw [fpass, if_pos rfl, nI_clamp (by omega), if_pos (by omega)]
    · refine lv_iconst (v := (nI 0)) hxe hcd dX10_passes_81 (by decide) ?_
      refine lv_goto (tgt := 93) hxe hcd dX10_passes_82 (by decide) ?_
      refine r_iret0 S hr hlk hW ?_ dX10_passes_93
      rw [fpass, if_pos rfl, nI_clamp (by omega), if_neg (by omega)]
  by_cases e9_102 : k = nI 102
  · subst e9_102
    refine lv_tableIn (tgt := 126) hxe hcd dX10_passes_9 (by decide) (by decide) (by first | rfl | decide) (by decide) ?_
    refine lv_iload hxe hcd dX10_passes_126 (lv_at hl 0 rfl) ?_
    refine lv_ineg hxe hcd dX10_passes_128 ?_
    refine r_iret0 S hr hlk hW ?_ dX10_passes_129
    simp [fpass, chg, show ¬ nI 102 = nI 100 by decide, show ¬ nI 102 = nI 109 by decide, show ¬ nI 102 = nI 103 by decide, show ¬ nI 102 = nI 99 by decide]
  by_cases e9_103 : k = nI 103
  · subst e9_103
    refine lv_tableIn (tgt := 68) hxe hcd dX10_passes_9 (by decide) (by decide) (by first | rfl | decide) (by decide) ?_
    refine lv_iload hxe hcd dX10_passes_68 (lv_at hl 0 rfl) ?_
    refine lv_iload_n hxe hcd dX10_passes_70 rfl (lv_at hl 3 rfl) ?_
    refine lv_imul hxe hcd dX10_passes_71 ?_
    refine lv_bipush (v := (nI 100)) hxe hcd dX10_passes_72 (by decide) ?_
    refine lv_idiv hxe hcd dX10_passes_74 (by decide) ?_
    refine r_iret0 S hr hlk hW ?_ dX10_passes_75
    simp [fpass, chg, show ¬ nI 103 = nI 100 by decide, show ¬ nI 103 = nI 109 by decide, show ¬ nI 103 = nI 99 by decide, show ¬ nI 103 = nI 102 by decide]
  by_cases e9_109 : k = nI 109
  · subst e9_109
    refine lv_tableIn (tgt := 94) hxe hcd dX10_passes_9 (by decide) (by decide) (by first | rfl | decide) (by decide) ?_
    have hd := KP_m hP9 hKP
    refine lv_aload_n hxe hcd dX10_passes_94 rfl (lv_at hl 1 rfl) ?_
    refine lv_iload_n hxe hcd dX10_passes_95 rfl (lv_at hl 4 rfl) ?_
    refine lv_iload_n hxe hcd dX10_passes_96 rfl (lv_at hl 3 rfl) ?_
    refine r_calli0 (r_runV hZ S hW (As := [.int (nI i), .int (nI P)]) (rest := []) (t_X10_mean l hZ B ν s.heap.size (i := i) (P := P) (by omega) (by omega) (by omega)) k_X10_124 (r_recv hW (x := 0) (List.mem_range.mpr (by decide)) rfl rfl) (hl.1) rfl rfl (Nat.le_of_ble_eq_true rfl) ⟨Nat.le_of_ble_eq_true rfl, Nat.le_of_ble_eq_true rfl⟩ ⟨Nat.le_of_ble_eq_true rfl, Nat.le_of_ble_eq_true rfl⟩ dX10_passes_97) hW (fun r97 H locs hp97 hW => ?_)
    have hp97 := hp97.symm
    subst hp97
    refine r_iret0 S hr hlk hW ?_ dX10_passes_100
    rw [fpass, if_neg (by decide), if_pos rfl, nI_clamp (by omega)]
  refine r_swD S (tgt := 130) dX10_passes_9 [99, 100, 102, 103, 109] (by intro k hk; simp only [List.mem_cons, List.not_mem_nil, or_false] at hk; rcases hk with rfl | rfl | rfl | rfl | rfl <;> first | exact ne_toInt e9_99 (by decide) | exact ne_toInt e9_100 (by decide) | exact ne_toInt e9_102 (by decide) | exact ne_toInt e9_103 (by decide) | exact ne_toInt e9_109 (by decide)) (by decide) (by decide) (by decide) ?_
  have h6 : nI 2 ≤ nI P ∧ nI P ≤ nI 99 := by rcases KP_chg hKP e9_100 e9_109 with h | h | h | h; exact absurd h.1 e9_103; exact absurd h.1 e9_99; exact absurd h.1 e9_102; exact h.2
  have hd := nI_rngs (lo := 2) (hi := 99) (by omega) (by decide) (by decide) h6
  refine lv_iload hxe hcd dX10_passes_130 (lv_at hl 0 rfl) ?_
  refine lv_iload_n hxe hcd dX10_passes_132 rfl (lv_at hl 3 rfl) ?_
  refine lv_idiv hxe hcd dX10_passes_133 (nI_ne0 (by omega) (by omega)) ?_
  refine lv_iload_n hxe hcd dX10_passes_134 rfl (lv_at hl 3 rfl) ?_
  refine lv_imul hxe hcd dX10_passes_135 ?_
  refine r_iret0 S hr hlk hW ?_ dX10_passes_136
  have h5 := KP_chg hKP e9_100 e9_109
  rw [fpass, if_neg e9_100, if_neg e9_109, chg, if_neg e9_103, if_neg e9_99, if_neg e9_102]
set_option maxHeartbeats 4000000 in
set_option maxRecDepth 100000 in
theorem t_X10_filters (l : Launch) {Z : ZT} (hZ : zOK Z) (B : Nat → Nat) (ν : MM) (sz : Nat) {q n : Nat} (hq : q < 4) (hn : ν 1 (25 + q) = nI n) (hn2 : n ≤ 160) {nf : Nat} (hnf : ν 1 0 = nI nf) (hnf8 : nf ≤ 8) (ps : Nat → Nat) (hps : ∀ f, f < nf → ν 1 (13 + f) = nI (ps f) ∧ ps f ≤ 999 ∧ KP (ν 1 (5 + f)) (nI (ps f))) : XMv l yX10_filters cX10_filters 4 2 [.ref (B 0), .int (nI q)] Z mds B (mE Z B) ν sz (fun u => ∃ o2 g2 : Nat → Int32, u = up1 (up1 ν 6 o2) 7 g2 ∧ ∀ j, j < n → o2 j = flV (ν 1) q nf j) := by
  refine r_met (E := (mE Z B ν)) (by decide +kernel) (Nat.le_of_ble_eq_true rfl) ?_
  intro p e s m below meth c ls S hr hlk hnm hsz hW hl
  have hxe := S.1
  have hcd := S.2.1
  subst hsz
  have hl : lv_has ls 4 [(0, .ref (B 0)), (1, .int (nI q))] := hl
  refine lv_iconst (v := (nI 0)) hxe hcd dX10_filters_0 (by decide) ?_
  refine lv_istore_n (lv' := [(2, .int (nI 0)), (0, .ref (B 0)), (1, .int (nI q))]) hxe hcd dX10_filters_1 rfl hl (by decide) rfl (fun ls hl => ?_)
  have loop2 : ∀ (n_ : Nat) (i : Nat), n - i < n_ → (i ≤ n) → ∀ (H : Heap) (locs : List Loc) (ls : Array Slot), wX Z mds B (mE Z B (up1 ν 6 (cpR i (fun t => ν 1 (77 + 160 * q + t)) (ν 6)))) (fA mds B (mE Z B ν) s.heap.size) s H locs → lv_has ls 4 [(0, .ref (B 0)), (1, .int (nI q)), (2, .int (nI i))] → W p l e (rmD 2 0 0) s m ([.ref (B 0), .int (nI q)] : List Value).toArray below meth c H locs 0 0 (MQ below (va_Qv (fun u => ∃ o2 g2 : Nat → Int32, u = up1 (up1 ν 6 o2) 7 g2 ∧ ∀ j, j < n → o2 j = flV (ν 1) q nf j) (fun u t => qB Z mds B ((mE Z B) u) (fA mds B (mE Z B ν) s.heap.size) t) (fA mds B (mE Z B ν) s.heap.size)) ([.ref (B 0), .int (nI q)] : List Value).toArray s 0 0 (fA mds B (mE Z B ν) s.heap.size)) (F0 m 2 ls []) := by
    intro n_
    induction n_ with
    | zero => intro i hm; exact absurd hm (Nat.not_lt_zero _)
    | succ n_ ih2 =>
      intro i hm hi H locs ls hW hl
      refine lv_iload_n hxe hcd dX10_filters_2 rfl (lv_at hl 2 rfl) ?_
      refine lv_aload_n hxe hcd dX10_filters_3 rfl (lv_at hl 0 rfl) ?_
      refine gf_X10_16 S hW dX10_filters_4 ?_
      refine lv_bipush (v := (nI 25)) hxe hcd dX10_filters_7 (by decide) ?_
      refine lv_iload_n hxe hcd dX10_filters_9 rfl (lv_at hl 1 rfl) ?_
      refine n_iadd S (a := 25) (b := q) dX10_filters_10 ?_
      refine gm_ald S hW (i := 1) (k := (25 + q)) (n := 1357) (by decide) (by decide) rfl (by omega) dX10_filters_11 ?_
      refine r_as (y := (ν 1 (25 + q))) (by rw [up1_o (j := 1) (i := 6) (by decide)]) ?_
      refine r_as (y := (nI n)) (hn) ?_
      refine n_ge S (a := i) (b := n) (by omega) (by omega) dX10_filters_12 (tgt := 42) (by decide) (fun c12 => ?_) (fun c12 => ?_)
      · refine lv_iconst (v := (nI 0)) hxe hcd dX10_filters_42 (by decide) ?_
        refine lv_istore_n (lv' := [(2, .int (nI 0)), (0, .ref (B 0)), (1, .int (nI q))]) hxe hcd dX10_filters_43 rfl hl (by decide) rfl (fun ls hl => ?_)
        have loop44 : ∀ (n_ : Nat) (f : Nat) (o2 g2 : Nat → Int32), nf - f < n_ → (f ≤ nf) → (∀ j, j < n → o2 j = flV (ν 1) q f j) → ∀ (H : Heap) (locs : List Loc) (ls : Array Slot), wX Z mds B (mE Z B (up1 (up1 ν 6 o2) 7 g2)) (fA mds B (mE Z B ν) s.heap.size) s H locs → lv_has ls 4 [(0, .ref (B 0)), (1, .int (nI q)), (2, .int (nI f))] → W p l e (rmD 2 0 0) s m ([.ref (B 0), .int (nI q)] : List Value).toArray below meth c H locs 0 0 (MQ below (va_Qv (fun u => ∃ o2 g2 : Nat → Int32, u = up1 (up1 ν 6 o2) 7 g2 ∧ ∀ j, j < n → o2 j = flV (ν 1) q nf j) (fun u t => qB Z mds B ((mE Z B) u) (fA mds B (mE Z B ν) s.heap.size) t) (fA mds B (mE Z B ν) s.heap.size)) ([.ref (B 0), .int (nI q)] : List Value).toArray s 0 0 (fA mds B (mE Z B ν) s.heap.size)) (F0 m 44 ls []) := by
          intro n_
          induction n_ with
          | zero => intro f o2 g2 hm; exact absurd hm (Nat.not_lt_zero _)
          | succ n_ ih44 =>
            intro f o2 g2 hm hf hO H locs ls hW hl
            refine lv_iload_n hxe hcd dX10_filters_44 rfl (lv_at hl 2 rfl) ?_
            refine lv_aload_n hxe hcd dX10_filters_45 rfl (lv_at hl 0 rfl) ?_
            refine gf_X10_16 S hW dX10_filters_46 ?_
            refine lv_iconst (v := (nI 0)) hxe hcd dX10_filters_49 (by decide) ?_
            refine gm_ald S hW (i := 1) (k := 0) (n := 1357) (by decide) (by decide) rfl (by omega) dX10_filters_50 ?_
            refine r_as (y := (ν 1 0)) (by rw [up1_o (j := 1) (i := 7) (by decide), up1_o (j := 1) (i := 6) (by decide)]) ?_
            refine r_as (y := (nI nf)) (hnf) ?_
            refine n_ge S (a := f) (b := nf) (by omega) (by omega) dX10_filters_51 (tgt := 142) (by decide) (fun c51 => ?_) (fun c51 => ?_)
            · refine r_vret S hr hlk (F := (mE Z B)) (u := (up1 (up1 ν 6 o2) 7 g2)) hW ?_ dX10_filters_142
              exact ⟨o2, g2, rfl, fun j hj => by rw [hO j hj, show f = nf by omega]⟩
            · refine lv_iconst (v := (nI 0)) hxe hcd dX10_filters_54 (by decide) ?_
              refine lv_istore_n (lv' := [(3, .int (nI 0)), (0, .ref (B 0)), (1, .int (nI q)), (2, .int (nI f))]) hxe hcd dX10_filters_55 rfl hl (by decide) rfl (fun ls hl => ?_)
              have loop56 : ∀ (n_ : Nat) (i2 : Nat), n - i2 < n_ → (i2 ≤ n) → ∀ (H : Heap) (locs : List Loc) (ls : Array Slot), wX Z mds B (mE Z B (up1 (up1 ν 6 o2) 7 (cpR i2 o2 g2))) (fA mds B (mE Z B ν) s.heap.size) s H locs → lv_has ls 4 [(0, .ref (B 0)), (1, .int (nI q)), (2, .int (nI f)), (3, .int (nI i2))] → W p l e (rmD 2 0 0) s m ([.ref (B 0), .int (nI q)] : List Value).toArray below meth c H locs 0 0 (MQ below (va_Qv (fun u => ∃ o2 g2 : Nat → Int32, u = up1 (up1 ν 6 o2) 7 g2 ∧ ∀ j, j < n → o2 j = flV (ν 1) q nf j) (fun u t => qB Z mds B ((mE Z B) u) (fA mds B (mE Z B ν) s.heap.size) t) (fA mds B (mE Z B ν) s.heap.size)) ([.ref (B 0), .int (nI q)] : List Value).toArray s 0 0 (fA mds B (mE Z B ν) s.heap.size)) (F0 m 56 ls []) := by
                intro n_
                induction n_ with
                | zero => intro i2 hm; exact absurd hm (Nat.not_lt_zero _)
                | succ n_ ih56 =>
                  intro i2 hm hi2 H locs ls hW hl
                  refine lv_iload_n hxe hcd dX10_filters_56 rfl (lv_at hl 3 rfl) ?_
                  refine lv_aload_n hxe hcd dX10_filters_57 rfl (lv_at hl 0 rfl) ?_
                  refine gf_X10_16 S hW dX10_filters_58 ?_
                  refine lv_bipush (v := (nI 25)) hxe hcd dX10_filters_61 (by decide) ?_
                  refine lv_iload_n hxe hcd dX10_filters_63 rfl (lv_at hl 1 rfl) ?_
                  refine n_iadd S (a := 25) (b := q) dX10_filters_64 ?_
                  refine gm_ald S hW (i := 1) (k := (25 + q)) (n := 1357) (by decide) (by decide) rfl (by omega) dX10_filters_65 ?_
                  refine r_as (y := (ν 1 (25 + q))) (by rw [up1_o (j := 1) (i := 7) (by decide), up1_o (j := 1) (i := 6) (by decide)]) ?_
                  refine r_as (y := (nI n)) (hn) ?_
                  refine n_ge S (a := i2) (b := n) (by omega) (by omega) dX10_filters_66 (tgt := 87) (by decide) (fun c66 => ?_) (fun c66 => ?_)
                  · refine lv_iconst (v := (nI 0)) hxe hcd dX10_filters_87 (by decide) ?_
                    refine lv_istore_n (lv' := [(3, .int (nI 0)), (0, .ref (B 0)), (1, .int (nI q)), (2, .int (nI f))]) hxe hcd dX10_filters_88 rfl hl (by decide) rfl (fun ls hl => ?_)
                    have loop89 : ∀ (n_ : Nat) (k : Nat), n - k < n_ → (k ≤ n) → ∀ (H : Heap) (locs : List Loc) (ls : Array Slot), wX Z mds B (mE Z B (up1 (up1 ν 6 (cpR k (fun j => fpass (ν 1 (5 + f)) (nI (ps f)) (cpR n o2 g2) j) o2)) 7 (cpR n o2 g2))) (fA mds B (mE Z B ν) s.heap.size) s H locs → lv_has ls 4 [(0, .ref (B 0)), (1, .int (nI q)), (2, .int (nI f)), (3, .int (nI k))] → W p l e (rmD 2 0 0) s m ([.ref (B 0), .int (nI q)] : List Value).toArray below meth c H locs 0 0 (MQ below (va_Qv (fun u => ∃ o2 g2 : Nat → Int32, u = up1 (up1 ν 6 o2) 7 g2 ∧ ∀ j, j < n → o2 j = flV (ν 1) q nf j) (fun u t => qB Z mds B ((mE Z B) u) (fA mds B (mE Z B ν) s.heap.size) t) (fA mds B (mE Z B ν) s.heap.size)) ([.ref (B 0), .int (nI q)] : List Value).toArray s 0 0 (fA mds B (mE Z B ν) s.heap.size)) (F0 m 89 ls []) := by
                      intro n_
                      induction n_ with
                      | zero => intro k hm; exact absurd hm (Nat.not_lt_zero _)
                      | succ n_ ih89 =>
                        intro k hm hk H locs ls hW hl
                        refine lv_iload_n hxe hcd dX10_filters_89 rfl (lv_at hl 3 rfl) ?_
                        refine lv_aload_n hxe hcd dX10_filters_90 rfl (lv_at hl 0 rfl) ?_
                        refine gf_X10_16 S hW dX10_filters_91 ?_
                        refine lv_bipush (v := (nI 25)) hxe hcd dX10_filters_94 (by decide) ?_
                        refine lv_iload_n hxe hcd dX10_filters_96 rfl (lv_at hl 1 rfl) ?_
                        refine n_iadd S (a := 25) (b := q) dX10_filters_97 ?_
                        refine gm_ald S hW (i := 1) (k := (25 + q)) (n := 1357) (by decide) (by decide) rfl (by omega) dX10_filters_98 ?_
                        refine r_as (y := (ν 1 (25 + q))) (by rw [up1_o (j := 1) (i := 7) (by decide), up1_o (j := 1) (i := 6) (by decide)]) ?_
                        refine r_as (y := (nI n)) (hn) ?_
                        refine n_ge S (a := k) (b := n) (by omega) (by omega) dX10_filters_99 (tgt := 136) (by decide) (fun c99 => ?_) (fun c99 => ?_)
                        · refine lv_iinc (v := (nI (f + 1))) (lv' := [(2, .int (nI (f + 1))), (0, .ref (B 0)), (1, .int (nI q)), (3, .int (nI k))]) hxe hcd dX10_filters_136 hl (k := 2) rfl (nI_add f 1) (by decide) rfl (fun ls hl => ?_)
                          refine lv_goto (tgt := 44) hxe hcd dX10_filters_139 (by decide) ?_
                          exact ih44 (f + 1) (cpR k (fun j => fpass (ν 1 (5 + f)) (nI (ps f)) (cpR n o2 g2) j) o2) (cpR n o2 g2) (by omega) (by omega) (fun j hj => by rw [cpR, if_pos (by omega), flV_s, (hps f (by omega)).1]; exact fpass_congr (fun j2 h2 => by rw [cpR, if_pos (by omega)]; exact hO j2 (by omega))) _ _ _ hW (lv_sub hl [1, 2, 0] rfl)
                        · refine lv_aload_n hxe hcd dX10_filters_102 rfl (lv_at hl 0 rfl) ?_
                          refine gf_X10_32 S hW dX10_filters_103 ?_
                          refine lv_iload_n hxe hcd dX10_filters_106 rfl (lv_at hl 3 rfl) ?_
                          refine lv_aload_n hxe hcd dX10_filters_107 rfl (lv_at hl 0 rfl) ?_
                          refine lv_aload_n hxe hcd dX10_filters_108 rfl (lv_at hl 0 rfl) ?_
                          refine gf_X10_16 S hW dX10_filters_109 ?_
                          refine lv_iconst (v := (nI 5)) hxe hcd dX10_filters_112 (by decide) ?_
                          refine lv_iload_n hxe hcd dX10_filters_113 rfl (lv_at hl 2 rfl) ?_
                          refine n_iadd S (a := 5) (b := f) dX10_filters_114 ?_
                          refine gm_ald S hW (i := 1) (k := (5 + f)) (n := 1357) (by decide) (by decide) rfl (by omega) dX10_filters_115 ?_
                          refine r_as (y := (ν 1 (5 + f))) (by rw [up1_o (j := 1) (i := 7) (by decide), up1_o (j := 1) (i := 6) (by decide)]) ?_
                          refine lv_aload_n hxe hcd dX10_filters_116 rfl (lv_at hl 0 rfl) ?_
                          refine gf_X10_16 S hW dX10_filters_117 ?_
                          refine lv_bipush (v := (nI 13)) hxe hcd dX10_filters_120 (by decide) ?_
                          refine lv_iload_n hxe hcd dX10_filters_122 rfl (lv_at hl 2 rfl) ?_
                          refine n_iadd S (a := 13) (b := f) dX10_filters_123 ?_
                          refine gm_ald S hW (i := 1) (k := (13 + f)) (n := 1357) (by decide) (by decide) rfl (by omega) dX10_filters_124 ?_
                          refine r_as (y := (ν 1 (13 + f))) (by rw [up1_o (j := 1) (i := 7) (by decide), up1_o (j := 1) (i := 6) (by decide)]) ?_
                          refine r_as (y := (nI (ps f))) ((hps f (by omega)).1) ?_
                          refine lv_iload_n hxe hcd dX10_filters_125 rfl (lv_at hl 3 rfl) ?_
                          refine r_calli0 (r_runV hZ S hW (As := [.int (ν 1 (5 + f)), .int (nI (ps f)), .int (nI k)]) (rest := [.int (nI k), .ref (B 6)]) (t_X10_passes l hZ B (up1 (up1 ν 6 (cpR k (fun j => fpass (ν 1 (5 + f)) (nI (ps f)) (cpR n o2 g2) j) o2)) 7 (cpR n o2 g2)) H.size (P := ps f) (i := k) (ν 1 (5 + f)) (hps f (by omega)).2.1 (hps f (by omega)).2.2 (by omega)) k_X10_127 (r_recv hW (x := 0) (List.mem_range.mpr (by decide)) rfl rfl) (hl.1) rfl rfl (Nat.le_of_ble_eq_true rfl) ⟨Nat.le_of_ble_eq_true rfl, Nat.le_of_ble_eq_true rfl⟩ ⟨Nat.le_of_ble_eq_true rfl, Nat.le_of_ble_eq_true rfl⟩ dX10_filters_126) hW (fun r126 H locs hp126 hW => ?_)
                          have hp126 := hp126.symm
                          subst hp126
                          refine gm_ast S hW (i := 6) (k := k) (n := 160) (by decide) (by decide) rfl (by omega) dX10_filters_129 (fun H locs hW => ?_)
                          refine lv_iinc (v := (nI (k + 1))) (lv' := [(3, .int (nI (k + 1))), (0, .ref (B 0)), (1, .int (nI q)), (2, .int (nI f))]) hxe hcd dX10_filters_130 hl (k := 3) rfl (nI_add k 1) (by decide) rfl (fun ls hl => ?_)
                          refine lv_goto (tgt := 89) hxe hcd dX10_filters_133 (by decide) ?_
                          exact ih89 (k + 1) (by omega) (by omega) _ _ _ (by simp only [up1_s, up1_o (j := 6) (i := 7) (by decide), up1_c (i := 7) (j := 6) (by decide), up1_2] at hW; rw [cpR_step (fun j => fpass (ν 1 (5 + f)) (nI (ps f)) (cpR n o2 g2) j)] at hW; exact hW) (lv_sub hl [1, 2, 3, 0] rfl)
                    exact loop89 (n + 1) 0 (Nat.lt_succ_self _) (Nat.zero_le _) _ _ _ (by rw [cpR_0]; rw [show i2 = n by omega] at hW; exact hW) (lv_sub hl [1, 2, 3, 0] rfl)
                  · refine lv_aload_n hxe hcd dX10_filters_69 rfl (lv_at hl 0 rfl) ?_
                    refine gf_X10_35 S hW dX10_filters_70 ?_
                    refine lv_iload_n hxe hcd dX10_filters_73 rfl (lv_at hl 3 rfl) ?_
                    refine lv_aload_n hxe hcd dX10_filters_74 rfl (lv_at hl 0 rfl) ?_
                    refine gf_X10_32 S hW dX10_filters_75 ?_
                    refine lv_iload_n hxe hcd dX10_filters_78 rfl (lv_at hl 3 rfl) ?_
                    refine gm_ald S hW (i := 6) (k := i2) (n := 160) (by decide) (by decide) rfl (by omega) dX10_filters_79 ?_
                    refine r_as (y := (o2 i2)) (by rw [up1_o (j := 6) (i := 7) (by decide), up1_s]) ?_
                    refine gm_ast S hW (i := 7) (k := i2) (n := 160) (by decide) (by decide) rfl (by omega) dX10_filters_80 (fun H locs hW => ?_)
                    refine lv_iinc (v := (nI (i2 + 1))) (lv' := [(3, .int (nI (i2 + 1))), (0, .ref (B 0)), (1, .int (nI q)), (2, .int (nI f))]) hxe hcd dX10_filters_81 hl (k := 3) rfl (nI_add i2 1) (by decide) rfl (fun ls hl => ?_)
                    refine lv_goto (tgt := 56) hxe hcd dX10_filters_84 (by decide) ?_
                    exact ih56 (i2 + 1) (by omega) (by omega) _ _ _ (by simp only [up1_s, up1_2] at hW; rw [cpR_step] at hW; exact hW) (lv_sub hl [1, 2, 3, 0] rfl)
              exact loop56 (n + 1) 0 (Nat.lt_succ_self _) (Nat.zero_le _) _ _ _ (by rw [cpR_0]; exact hW) (lv_sub hl [1, 2, 3, 0] rfl)
        exact loop44 (nf + 1) 0 (cpR i (fun t => ν 1 (77 + 160 * q + t)) (ν 6)) (ν 7) (Nat.lt_succ_self _) (Nat.zero_le _) (fun j hj => by rw [cpR, if_pos (by omega)]; rfl) _ _ _ (by have e := up1_id (up1 ν 6 (cpR i (fun t => ν 1 (77 + 160 * q + t)) (ν 6))) 7; rw [up1_o (j := 7) (i := 6) (by decide)] at e; rw [e]; exact hW) (lv_sub hl [1, 2, 0] rfl)
      · refine lv_aload_n hxe hcd dX10_filters_15 rfl (lv_at hl 0 rfl) ?_
        refine gf_X10_32 S hW dX10_filters_16 ?_
        refine lv_iload_n hxe hcd dX10_filters_19 rfl (lv_at hl 2 rfl) ?_
        refine lv_aload_n hxe hcd dX10_filters_20 rfl (lv_at hl 0 rfl) ?_
        refine gf_X10_16 S hW dX10_filters_21 ?_
        refine lv_bipush (v := (nI 77)) hxe hcd dX10_filters_24 (by decide) ?_
        refine lv_sipush (v := (nI 160)) hxe hcd dX10_filters_26 (by decide) ?_
        refine lv_iload_n hxe hcd dX10_filters_29 rfl (lv_at hl 1 rfl) ?_
        refine n_imul S (a := 160) (b := q) dX10_filters_30 ?_
        refine n_iadd S (a := 77) (b := (160 * q)) dX10_filters_31 ?_
        refine lv_iload_n hxe hcd dX10_filters_32 rfl (lv_at hl 2 rfl) ?_
        refine n_iadd S (a := (77 + (160 * q))) (b := i) dX10_filters_33 ?_
        refine gm_ald S hW (i := 1) (k := ((77 + (160 * q)) + i)) (n := 1357) (by decide) (by decide) rfl (by omega) dX10_filters_34 ?_
        refine r_as (y := (ν 1 ((77 + (160 * q)) + i))) (by rw [up1_o (j := 1) (i := 6) (by decide)]) ?_
        refine gm_ast S hW (i := 6) (k := i) (n := 160) (by decide) (by decide) rfl (by omega) dX10_filters_35 (fun H locs hW => ?_)
        refine lv_iinc (v := (nI (i + 1))) (lv' := [(2, .int (nI (i + 1))), (0, .ref (B 0)), (1, .int (nI q))]) hxe hcd dX10_filters_36 hl (k := 2) rfl (nI_add i 1) (by decide) rfl (fun ls hl => ?_)
        refine lv_goto (tgt := 2) hxe hcd dX10_filters_39 (by decide) ?_
        exact ih2 (i + 1) (by omega) (by omega) _ _ _ (by simp only [up1_s, up1_2] at hW; rw [cpR_step (fun t => ν 1 (77 + 160 * q + t))] at hW; exact hW) (lv_sub hl [1, 2, 0] rfl)
  exact loop2 (n + 1) 0 (Nat.lt_succ_self _) (Nat.zero_le _) _ _ _ (by rw [cpR_0, up1_id]; exact hW) (lv_sub hl [1, 2, 0] rfl)
set_option maxHeartbeats 4000000 in
set_option maxRecDepth 100000 in
theorem t_X10_loud (l : Launch) {Z : ZT} (hZ : zOK Z) (B : Nat → Nat) (ν : MM) (sz : Nat) {a b0 : Nat} (hab : a ≤ b0) (hb0 : b0 ≤ 160) : XCi l yX10_loud cX10_loud 5 (some .int) 1 [.ref (B 0), .int (nI a), .int (nI b0)] Z mds B (mE Z B ν) sz (fun r => r = maxR (fun k => iabs (ν 6 (a + k))) (b0 - a)) := by
  refine r_met (E := (mE Z B ν)) (by decide +kernel) (Nat.le_of_ble_eq_true rfl) ?_
  intro p e s m below meth c ls S hr hlk hnm hsz hW hl
  have hxe := S.1
  have hcd := S.2.1
  subst hsz
  have hl : lv_has ls 5 [(0, .ref (B 0)), (1, .int (nI a)), (2, .int (nI b0))] := hl
  refine lv_iconst (v := (nI 0)) hxe hcd dX10_loud_0 (by decide) ?_
  refine lv_istore_n (lv' := [(3, .int (nI 0)), (0, .ref (B 0)), (1, .int (nI a)), (2, .int (nI b0))]) hxe hcd dX10_loud_1 rfl hl (by decide) rfl (fun ls hl => ?_)
  refine lv_iload_n hxe hcd dX10_loud_2 rfl (lv_at hl 2 rfl) ?_
  refine lv_istore (lv' := [(4, .int (nI a)), (3, .int (nI 0)), (0, .ref (B 0)), (1, .int (nI a)), (2, .int (nI b0))]) hxe hcd dX10_loud_3 hl (by decide) rfl (fun ls hl => ?_)
  have hl : lv_has ls 5 [(4, .int (nI a)), (3, .int (maxR (fun k => iabs (ν 6 (a + k))) (a - a))), (0, .ref (B 0)), (1, .int (nI a)), (2, .int (nI b0))] := by rw [Nat.sub_self]; exact hl
  have loop5 : ∀ (n_ : Nat) (i : Nat), b0 - i < n_ → (a ≤ i) → (i ≤ b0) → ∀ (H : Heap) (locs : List Loc) (ls : Array Slot), wX Z mds B (mE Z B ν) (fA mds B (mE Z B ν) s.heap.size) s H locs → lv_has ls 5 [(0, .ref (B 0)), (1, .int (nI a)), (2, .int (nI b0)), (3, .int (maxR (fun k => iabs (ν 6 (a + k))) (i - a))), (4, .int (nI i))] → W p l e (rmD 1 0 0) s m ([.ref (B 0), .int (nI a), .int (nI b0)] : List Value).toArray below meth c H locs 0 0 (MQ below (va_Qi (fun r (_ : Unit) => (fun r => r = maxR (fun k => iabs (ν 6 (a + k))) (b0 - a)) r) (fun _ t => qB Z mds B (mE Z B ν) (fA mds B (mE Z B ν) s.heap.size) t) (fA mds B (mE Z B ν) s.heap.size)) ([.ref (B 0), .int (nI a), .int (nI b0)] : List Value).toArray s 0 0 (fA mds B (mE Z B ν) s.heap.size)) (F0 m 5 ls []) := by
    intro n_
    induction n_ with
    | zero => intro i hm; exact absurd hm (Nat.not_lt_zero _)
    | succ n_ ih5 =>
      intro i hm hi hi2 H locs ls hW hl
      refine lv_iload hxe hcd dX10_loud_5 (lv_at hl 4 rfl) ?_
      refine lv_iload_n hxe hcd dX10_loud_7 rfl (lv_at hl 2 rfl) ?_
      refine n_ge S (a := i) (b := b0) (by omega) (by omega) dX10_loud_8 (tgt := 46) (by decide) (fun c8 => ?_) (fun c8 => ?_)
      · refine lv_iload_n hxe hcd dX10_loud_46 rfl (lv_at hl 3 rfl) ?_
        refine r_iret0 S hr hlk hW ?_ dX10_loud_47
        rw [show i = b0 by omega]
      · refine lv_aload_n hxe hcd dX10_loud_11 rfl (lv_at hl 0 rfl) ?_
        refine gf_X10_32 S hW dX10_loud_12 ?_
        refine lv_iload hxe hcd dX10_loud_15 (lv_at hl 4 rfl) ?_
        refine gm_ald S hW (i := 6) (k := i) (n := 160) (by decide) (by decide) rfl (by omega) dX10_loud_17 ?_
        refine r_calli0 (r_runS hZ S hW (As := [.int (ν 6 i)]) (rest := []) (t_X10_size l hZ mds B (mE Z B ν) H.size (ν 6 i)) k_X10_99 (hl.1) rfl rfl (Nat.le_of_ble_eq_true rfl) ⟨Nat.le_of_ble_eq_true rfl, Nat.le_of_ble_eq_true rfl⟩ ⟨Nat.le_of_ble_eq_true rfl, Nat.le_of_ble_eq_true rfl⟩ dX10_loud_18) hW (fun r18 H locs hp18 hW => ?_)
        have hp18 := hp18.symm
        subst hp18
        refine lv_iload_n hxe hcd dX10_loud_21 rfl (lv_at hl 3 rfl) ?_
        refine lv_icmp_le (tgt := 38) hxe hcd dX10_loud_22 (by decide) (fun c22 => ?_) (fun c22 => ?_)
        · refine lv_iload_n hxe hcd dX10_loud_38 rfl (lv_at hl 3 rfl) ?_
          refine lv_istore_n (lv' := [(3, .int (maxR (fun k => iabs (ν 6 (a + k))) (i - a))), (0, .ref (B 0)), (1, .int (nI a)), (2, .int (nI b0)), (4, .int (nI i))]) hxe hcd dX10_loud_39 rfl hl (by decide) rfl (fun ls hl => ?_)
          refine lv_iinc (v := (nI (i + 1))) (lv' := [(4, .int (nI (i + 1))), (3, .int (maxR (fun k => iabs (ν 6 (a + k))) (i - a))), (0, .ref (B 0)), (1, .int (nI a)), (2, .int (nI b0))]) hxe hcd dX10_loud_40 hl (k := 4) rfl (nI_add i 1) (by decide) rfl (fun ls hl => ?_)
          refine lv_goto (tgt := 5) hxe hcd dX10_loud_43 (by decide) ?_
          have hl : lv_has ls 5 [(4, .int (nI (i + 1))), (3, .int (maxR (fun k => iabs (ν 6 (a + k))) (i + 1 - a))), (0, .ref (B 0)), (1, .int (nI a)), (2, .int (nI b0))] := by
            rw [show i + 1 - a = (i - a) + 1 by omega, maxR, show a + (i - a) = i by omega, imax, if_neg (I_nlt.mpr c22)]
            exact lv_sub hl [0, 1, 2, 3, 4] rfl
          exact ih5 (i + 1) (by omega) (by omega) (by omega) _ _ _ hW (lv_sub hl [2, 3, 4, 1, 0] rfl)
        · refine lv_aload_n hxe hcd dX10_loud_25 rfl (lv_at hl 0 rfl) ?_
          refine gf_X10_32 S hW dX10_loud_26 ?_
          refine lv_iload hxe hcd dX10_loud_29 (lv_at hl 4 rfl) ?_
          refine gm_ald S hW (i := 6) (k := i) (n := 160) (by decide) (by decide) rfl (by omega) dX10_loud_31 ?_
          refine r_calli0 (r_runS hZ S hW (As := [.int (ν 6 i)]) (rest := []) (t_X10_size l hZ mds B (mE Z B ν) H.size (ν 6 i)) k_X10_99 (hl.1) rfl rfl (Nat.le_of_ble_eq_true rfl) ⟨Nat.le_of_ble_eq_true rfl, Nat.le_of_ble_eq_true rfl⟩ ⟨Nat.le_of_ble_eq_true rfl, Nat.le_of_ble_eq_true rfl⟩ dX10_loud_32) hW (fun r32 H locs hp32 hW => ?_)
          have hp32 := hp32.symm
          subst hp32
          refine lv_goto (tgt := 39) hxe hcd dX10_loud_35 (by decide) ?_
          refine lv_istore_n (lv' := [(3, .int (iabs (ν 6 i))), (0, .ref (B 0)), (1, .int (nI a)), (2, .int (nI b0)), (4, .int (nI i))]) hxe hcd dX10_loud_39 rfl hl (by decide) rfl (fun ls hl => ?_)
          refine lv_iinc (v := (nI (i + 1))) (lv' := [(4, .int (nI (i + 1))), (3, .int (iabs (ν 6 i))), (0, .ref (B 0)), (1, .int (nI a)), (2, .int (nI b0))]) hxe hcd dX10_loud_40 hl (k := 4) rfl (nI_add i 1) (by decide) rfl (fun ls hl => ?_)
          refine lv_goto (tgt := 5) hxe hcd dX10_loud_43 (by decide) ?_
          have hl : lv_has ls 5 [(4, .int (nI (i + 1))), (3, .int (maxR (fun k => iabs (ν 6 (a + k))) (i + 1 - a))), (0, .ref (B 0)), (1, .int (nI a)), (2, .int (nI b0))] := by
            rw [show i + 1 - a = (i - a) + 1 by omega, maxR, show a + (i - a) = i by omega, imax, if_pos (I_nle.mp c22)]
            exact lv_sub hl [0, 1, 2, 3, 4] rfl
          exact ih5 (i + 1) (by omega) (by omega) (by omega) _ _ _ hW (lv_sub hl [2, 3, 4, 1, 0] rfl)
  exact loop5 ((b0 - a) + 1) a (Nat.lt_succ_self _) (Nat.le_refl _) hab _ _ _ hW (lv_sub hl [2, 3, 4, 1, 0] rfl)
