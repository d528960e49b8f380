set_option maxHeartbeats 4000000 in
set_option maxRecDepth 100000 in
theorem t_X10_addsTank (l : Launch) {Z : ZT} (hZ : zOK Z) (B : Nat → Nat) (ν : MM) (sz : Nat) {nt : Nat} (hnt : ν 1 1 = nI nt) (hnt4 : nt ≤ 4) (x : Int32) : XMi l yX10_addsTank cX10_addsTank 3 (some .int) 1 [.ref (B 0), .int x] Z mds B (mE Z B) ν sz (fun r u => (¬ (nI 1 ≤ x ∧ x ≤ nI 9) ∧ r = nI 0 ∧ u = up1 ν 0 (upd (ν 0) 0 (nI 1))) ∨ ((nI 1 ≤ x ∧ x ≤ nI 9) ∧ nt = 4 ∧ r = nI 0 ∧ u = up1 ν 0 (upd (ν 0) 0 (nI 2))) ∨ ((nI 1 ≤ x ∧ x ≤ nI 9) ∧ nt < 4 ∧ r = nI nt ∧ u = up1 ν 1 (upd (upd (upd (ν 1) (29 + 12 * nt + 0) x) (29 + 12 * nt + 1) (nI 9999)) 1 (nI (nt + 1))))) := by
  refine r_met (E := (mE Z B ν)) (by decide +kernel) (Nat.le_of_ble_eq_true rfl) ?_
  intro p e s m below meth c ls S hr hlk hnm hsz hW hl
  have hxe := S.1
  have hcd := S.2.1
  subst hsz
  have hl : lv_has ls 3 [(0, .ref (B 0)), (1, .int x)] := hl
  refine lv_iload_n hxe hcd dX10_addsTank_0 rfl (lv_at hl 1 rfl) ?_
  refine lv_iconst (v := (nI 1)) hxe hcd dX10_addsTank_1 (by decide) ?_
  refine lv_bipush (v := (nI 9)) hxe hcd dX10_addsTank_2 (by decide) ?_
  refine r_calli0 (r_runS hZ S hW (As := [.int x, .int (nI 1), .int (nI 9)]) (rest := []) (t_X10_isIn l hZ mds B (mE Z B ν) s.heap.size x (nI 1) (nI 9)) k_X10_63 (hl.1) rfl rfl (Nat.le_of_ble_eq_true rfl) ⟨Nat.le_of_ble_eq_true rfl, Nat.le_of_ble_eq_true rfl⟩ ⟨Nat.le_of_ble_eq_true rfl, Nat.le_of_ble_eq_true rfl⟩ dX10_addsTank_4) hW (fun r4 H locs hp4 hW => ?_)
  rcases hp4 with ⟨hp40, hp4⟩ | ⟨hp40, hp4⟩
  · subst hp40
    refine lv_if_ne (tgt := 16) hxe hcd dX10_addsTank_7 (by decide) (fun _ => ?_) (fun h => absurd h (by decide))
    refine lv_aload_n hxe hcd dX10_addsTank_16 rfl (lv_at hl 0 rfl) ?_
    refine gf_X10_16 S hW dX10_addsTank_17 ?_
    refine lv_iconst (v := (nI 1)) hxe hcd dX10_addsTank_20 (by decide) ?_
    refine gm_ald S hW (i := 1) (k := 1) (n := 1357) (by decide) (by decide) rfl (by omega) dX10_addsTank_21 ?_
    refine r_as (y := (nI nt)) (hnt) ?_
    refine lv_istore_n (lv' := [(2, .int (nI nt)), (0, .ref (B 0)), (1, .int x)]) hxe hcd dX10_addsTank_22 rfl hl (by decide) rfl (fun ls hl => ?_)
    refine lv_iload_n hxe hcd dX10_addsTank_23 rfl (lv_at hl 0 rfl) ?_
    refine lv_iconst (v := (nI 4)) hxe hcd dX10_addsTank_24 (by decide) ?_
    refine n_ne S (a := nt) (b := 4) (by omega) (by omega) dX10_addsTank_25 (tgt := 34) (by decide) (fun c25 => ?_) (fun c25 => ?_)
    · refine lv_aload_n hxe hcd dX10_addsTank_34 rfl (lv_at hl 1 rfl) ?_
      refine gf_X10_16 S hW dX10_addsTank_35 ?_
      refine lv_iload_n hxe hcd dX10_addsTank_38 rfl (lv_at hl 0 rfl) ?_
      refine lv_iconst (v := (nI 0)) hxe hcd dX10_addsTank_39 (by decide) ?_
      refine r_calli0 (r_runS hZ S hW (As := [.int (nI nt), .int (nI 0)]) (rest := [.ref (B 1)]) (t_X10_of l hZ mds B (mE Z B ν) H.size (t := nt) (w := 0)) k_X10_144 (hl.1) rfl rfl (Nat.le_of_ble_eq_true rfl) ⟨Nat.le_of_ble_eq_true rfl, Nat.le_of_ble_eq_true rfl⟩ ⟨Nat.le_of_ble_eq_true rfl, Nat.le_of_ble_eq_true rfl⟩ dX10_addsTank_40) hW (fun r40 H locs hp40 hW => ?_)
      have hp40 := hp40.symm
      subst hp40
      refine lv_iload_n hxe hcd dX10_addsTank_43 rfl (lv_at hl 2 rfl) ?_
      refine gm_ast S hW (i := 1) (k := (29 + 12 * nt + 0)) (n := 1357) (by decide) (by decide) rfl (by omega) dX10_addsTank_44 (fun H locs hW => ?_)
      refine lv_aload_n hxe hcd dX10_addsTank_45 rfl (lv_at hl 1 rfl) ?_
      refine gf_X10_16 S hW dX10_addsTank_46 ?_
      refine lv_iload_n hxe hcd dX10_addsTank_49 rfl (lv_at hl 0 rfl) ?_
      refine lv_iconst (v := (nI 1)) hxe hcd dX10_addsTank_50 (by decide) ?_
      refine r_calli0 (r_runS hZ S hW (As := [.int (nI nt), .int (nI 1)]) (rest := [.ref (B 1)]) (t_X10_of l hZ mds B (mE Z B (up1 ν 1 (upd (ν 1) (29 + 12 * nt + 0) x))) H.size (t := nt) (w := 1)) k_X10_144 (hl.1) rfl rfl (Nat.le_of_ble_eq_true rfl) ⟨Nat.le_of_ble_eq_true rfl, Nat.le_of_ble_eq_true rfl⟩ ⟨Nat.le_of_ble_eq_true rfl, Nat.le_of_ble_eq_true rfl⟩ dX10_addsTank_51) hW (fun r51 H locs hp51 hW => ?_)
      have hp51 := hp51.symm
      subst hp51
      refine lv_sipush (v := (nI 9999)) hxe hcd dX10_addsTank_54 (by decide) ?_
      refine gm_ast S hW (i := 1) (k := (29 + 12 * nt + 1)) (n := 1357) (by decide) (by decide) rfl (by omega) dX10_addsTank_57 (fun H locs hW => ?_)
      refine lv_aload_n hxe hcd dX10_addsTank_58 rfl (lv_at hl 1 rfl) ?_
      refine gf_X10_16 S hW dX10_addsTank_59 ?_
      refine lv_iconst (v := (nI 1)) hxe hcd dX10_addsTank_62 (by decide) ?_
      refine lv_dup2_11 hxe hcd dX10_addsTank_63 rfl rfl ?_
      refine gm_ald S hW (i := 1) (k := 1) (n := 1357) (by decide) (by decide) rfl (by omega) dX10_addsTank_64 ?_
      refine r_as (y := (nI nt)) (by simp only [up1_s]; rw [upd_o (by omega), upd_o (by omega), hnt]) ?_
      refine lv_iconst (v := (nI 1)) hxe hcd dX10_addsTank_65 (by decide) ?_
      refine n_iadd S (a := nt) (b := 1) dX10_addsTank_66 ?_
      refine gm_ast S hW (i := 1) (k := 1) (n := 1357) (by decide) (by decide) rfl (by omega) dX10_addsTank_67 (fun H locs hW => ?_)
      refine lv_iload_n hxe hcd dX10_addsTank_68 rfl (lv_at hl 0 rfl) ?_
      refine r_iret S hr hlk (F := (mE Z B)) (u := (up1 (up1 (up1 ν 1 (upd (ν 1) (29 + 12 * nt + 0) x)) 1 (upd ((up1 ν 1 (upd (ν 1) (29 + 12 * nt + 0) x)) 1) (29 + 12 * nt + 1) (nI 9999))) 1 (upd ((up1 (up1 ν 1 (upd (ν 1) (29 + 12 * nt + 0) x)) 1 (upd ((up1 ν 1 (upd (ν 1) (29 + 12 * nt + 0) x)) 1) (29 + 12 * nt + 1) (nI 9999))) 1) 1 (nI (nt + 1))))) hW ?_ dX10_addsTank_69
      first | exact Or.inl ⟨hp4, rfl, rfl⟩ | exact Or.inr (Or.inl ⟨hp4, by omega, rfl, rfl⟩) | (refine Or.inr (Or.inr ⟨hp4, by omega, rfl, ?_⟩); simp only [up1_s, up1_2])
    · refine lv_aload_n hxe hcd dX10_addsTank_28 rfl (lv_at hl 1 rfl) ?_
      refine lv_iconst (v := (nI 2)) hxe hcd dX10_addsTank_29 (by decide) ?_
      refine r_calli (F := (mE Z B)) (r_runV hZ S hW (As := [.int (nI 2)]) (rest := []) (t_X10_fail l hZ B ν H.size (nI 2)) k_X10_71 (r_recv hW (x := 0) (List.mem_range.mpr (by decide)) rfl rfl) (hl.1) rfl rfl (Nat.le_of_ble_eq_true rfl) ⟨Nat.le_of_ble_eq_true rfl, Nat.le_of_ble_eq_true rfl⟩ ⟨Nat.le_of_ble_eq_true rfl, Nat.le_of_ble_eq_true rfl⟩ dX10_addsTank_30) hW (fun r30 u30 H locs hp30 hW => ?_)
      obtain ⟨hp30, hp30m⟩ := hp30
      have hp30 := hp30.symm
      subst hp30
      have hp30m := hp30m.symm
      subst hp30m
      refine r_iret S hr hlk (F := (mE Z B)) (u := (up1 ν 0 (upd (ν 0) 0 (nI 2)))) hW ?_ dX10_addsTank_33
      first | exact Or.inl ⟨hp4, rfl, rfl⟩ | exact Or.inr (Or.inl ⟨hp4, by omega, rfl, rfl⟩) | (refine Or.inr (Or.inr ⟨hp4, by omega, rfl, ?_⟩); simp only [up1_s, up1_2])
  · subst hp40
    refine lv_if_ne (tgt := 16) hxe hcd dX10_addsTank_7 (by decide) (fun h => absurd h (by decide)) (fun _ => ?_)
    refine lv_aload_n hxe hcd dX10_addsTank_10 rfl (lv_at hl 0 rfl) ?_
    refine lv_iconst (v := (nI 1)) hxe hcd dX10_addsTank_11 (by decide) ?_
    refine r_calli (F := (mE Z B)) (r_runV hZ S hW (As := [.int (nI 1)]) (rest := []) (t_X10_fail l hZ B ν H.size (nI 1)) k_X10_71 (r_recv hW (x := 0) (List.mem_range.mpr (by decide)) rfl rfl) (hl.1) rfl rfl (Nat.le_of_ble_eq_true rfl) ⟨Nat.le_of_ble_eq_true rfl, Nat.le_of_ble_eq_true rfl⟩ ⟨Nat.le_of_ble_eq_true rfl, Nat.le_of_ble_eq_true rfl⟩ dX10_addsTank_12) hW (fun r12 u12 H locs hp12 hW => ?_)
    obtain ⟨hp12, hp12m⟩ := hp12
    have hp12 := hp12.symm
    subst hp12
    have hp12m := hp12m.symm
    subst hp12m
    refine r_iret S hr hlk (F := (mE Z B)) (u := (up1 ν 0 (upd (ν 0) 0 (nI 1)))) hW ?_ dX10_addsTank_15
    first | exact Or.inl ⟨hp4, rfl, rfl⟩ | exact Or.inr (Or.inl ⟨hp4, by omega, rfl, rfl⟩) | (refine Or.inr (Or.inr ⟨hp4, by omega, rfl, ?_⟩); simp only [up1_s, up1_2])
set_option maxHeartbeats 4000000 in
set_option maxRecDepth 100000 in
theorem t_X10_tunes (l : Launch) {Z : ZT} (hZ : zOK Z) (B : Nat → Nat) (ν : MM) (sz : Nat) {nt : Nat} (hnt : ν 1 1 = nI nt) (hnt4 : nt ≤ 4) (x y : Int32) : XMi l yX10_tunes cX10_tunes 4 (some .int) 2 [.ref (B 0), .int x, .int y] Z mds B (mE Z B) ν sz (fun r u => (¬ IX x nt ∧ r = nI 0 ∧ u = up1 ν 0 (upd (ν 0) 0 (nI 1))) ∨ (IX x nt ∧ ¬ (nI 0 ≤ y ∧ y ≤ nI 9999) ∧ r = nI 0 ∧ u = up1 ν 0 (upd (ν 0) 0 (nI 2))) ∨ (∃ q, q < nt ∧ x = nI q ∧ (nI 0 ≤ y ∧ y ≤ nI 9999) ∧ r = ν 1 (29 + 12 * q + 1) ∧ u = up1 ν 1 (upd (ν 1) (29 + 12 * q + 1) y))) := by
  refine r_met (E := (mE Z B ν)) (by decide +kernel) (Nat.le_of_ble_eq_true rfl) ?_
  intro p e s m below meth c ls S hr hlk hnm hsz hW hl
  have hxe := S.1
  have hcd := S.2.1
  subst hsz
  have hl : lv_has ls 4 [(0, .ref (B 0)), (1, .int x), (2, .int y)] := hl
  refine lv_aload_n hxe hcd dX10_tunes_0 rfl (lv_at hl 0 rfl) ?_
  refine lv_iload_n hxe hcd dX10_tunes_1 rfl (lv_at hl 1 rfl) ?_
  refine r_calli0 (r_runV hZ S hW (As := [.int x]) (rest := []) (t_X10_isTank l hZ B ν s.heap.size hnt hnt4 x) k_X10_150 (r_recv hW (x := 0) (List.mem_range.mpr (by decide)) rfl rfl) (hl.1) rfl rfl (Nat.le_of_ble_eq_true rfl) ⟨Nat.le_of_ble_eq_true rfl, Nat.le_of_ble_eq_true rfl⟩ ⟨Nat.le_of_ble_eq_true rfl, Nat.le_of_ble_eq_true rfl⟩ dX10_tunes_2) hW (fun r2 H locs hp2 hW => ?_)
  rcases hp2 with ⟨hp20, hp2⟩ | ⟨hp20, hp2⟩
  · subst hp20
    refine lv_if_ne (tgt := 14) hxe hcd dX10_tunes_5 (by decide) (fun _ => ?_) (fun h => absurd h (by decide))
    refine lv_iload_n hxe hcd dX10_tunes_14 rfl (lv_at hl 2 rfl) ?_
    refine lv_iconst (v := (nI 0)) hxe hcd dX10_tunes_15 (by decide) ?_
    refine lv_sipush (v := (nI 9999)) hxe hcd dX10_tunes_16 (by decide) ?_
    refine r_calli0 (r_runS hZ S hW (As := [.int y, .int (nI 0), .int (nI 9999)]) (rest := []) (t_X10_isIn l hZ mds B (mE Z B ν) H.size y (nI 0) (nI 9999)) k_X10_63 (hl.1) rfl rfl (Nat.le_of_ble_eq_true rfl) ⟨Nat.le_of_ble_eq_true rfl, Nat.le_of_ble_eq_true rfl⟩ ⟨Nat.le_of_ble_eq_true rfl, Nat.le_of_ble_eq_true rfl⟩ dX10_tunes_19) hW (fun r19 H locs hp19 hW => ?_)
    rcases hp19 with ⟨hp190, hp19⟩ | ⟨hp190, hp19⟩
    · subst hp190
      refine lv_if_ne (tgt := 31) hxe hcd dX10_tunes_22 (by decide) (fun _ => ?_) (fun h => absurd h (by decide))
      obtain ⟨q, hq, rfl⟩ := hp2
      refine lv_aload_n hxe hcd dX10_tunes_31 rfl (lv_at hl 0 rfl) ?_
      refine gf_X10_16 S hW dX10_tunes_32 ?_
      refine lv_iload_n hxe hcd dX10_tunes_35 rfl (lv_at hl 1 rfl) ?_
      refine lv_iconst (v := (nI 1)) hxe hcd dX10_tunes_36 (by decide) ?_
      refine r_calli0 (r_runS hZ S hW (As := [.int (nI q), .int (nI 1)]) (rest := [.ref (B 1)]) (t_X10_of l hZ mds B (mE Z B ν) H.size (t := q) (w := 1)) k_X10_144 (hl.1) rfl rfl (Nat.le_of_ble_eq_true rfl) ⟨Nat.le_of_ble_eq_true rfl, Nat.le_of_ble_eq_true rfl⟩ ⟨Nat.le_of_ble_eq_true rfl, Nat.le_of_ble_eq_true rfl⟩ dX10_tunes_37) hW (fun r37 H locs hp37 hW => ?_)
      have hp37 := hp37.symm
      subst hp37
      refine gm_ald S hW (i := 1) (k := (29 + 12 * q + 1)) (n := 1357) (by decide) (by decide) rfl (by omega) dX10_tunes_40 ?_
      refine lv_istore_n (lv' := [(3, .int (ν 1 (29 + 12 * q + 1))), (0, .ref (B 0)), (1, .int (nI q)), (2, .int y)]) hxe hcd dX10_tunes_41 rfl hl (by decide) rfl (fun ls hl => ?_)
      refine lv_aload_n hxe hcd dX10_tunes_42 rfl (lv_at hl 1 rfl) ?_
      refine gf_X10_16 S hW dX10_tunes_43 ?_
      refine lv_iload_n hxe hcd dX10_tunes_46 rfl (lv_at hl 2 rfl) ?_
      refine lv_iconst (v := (nI 1)) hxe hcd dX10_tunes_47 (by decide) ?_
      refine r_calli0 (r_runS hZ S hW (As := [.int (nI q), .int (nI 1)]) (rest := [.ref (B 1)]) (t_X10_of l hZ mds B (mE Z B ν) H.size (t := q) (w := 1)) k_X10_144 (hl.1) rfl rfl (Nat.le_of_ble_eq_true rfl) ⟨Nat.le_of_ble_eq_true rfl, Nat.le_of_ble_eq_true rfl⟩ ⟨Nat.le_of_ble_eq_true rfl, Nat.le_of_ble_eq_true rfl⟩ dX10_tunes_48) hW (fun r48 H locs hp48 hW => ?_)
      have hp48 := hp48.symm
      subst hp48
      refine lv_iload_n hxe hcd dX10_tunes_51 rfl (lv_at hl 3 rfl) ?_
      refine gm_ast S hW (i := 1) (k := (29 + 12 * q + 1)) (n := 1357) (by decide) (by decide) rfl (by omega) dX10_tunes_52 (fun H locs hW => ?_)
      refine lv_iload_n hxe hcd dX10_tunes_53 rfl (lv_at hl 0 rfl) ?_
      refine r_iret S hr hlk (F := (mE Z B)) (u := (up1 ν 1 (upd (ν 1) (29 + 12 * q + 1) y))) hW ?_ dX10_tunes_54
      first | exact Or.inl ⟨hp2, rfl, rfl⟩ | exact Or.inr (Or.inl ⟨hp2, hp19, rfl, rfl⟩) | exact Or.inr (Or.inr ⟨q, hq, rfl, hp19, rfl, rfl⟩)
    · subst hp190
      refine lv_if_ne (tgt := 31) hxe hcd dX10_tunes_22 (by decide) (fun h => absurd h (by decide)) (fun _ => ?_)
      refine lv_aload_n hxe hcd dX10_tunes_25 rfl (lv_at hl 0 rfl) ?_
      refine lv_iconst (v := (nI 2)) hxe hcd dX10_tunes_26 (by decide) ?_
      refine r_calli (F := (mE Z B)) (r_runV hZ S hW (As := [.int (nI 2)]) (rest := []) (t_X10_fail l hZ B ν H.size (nI 2)) k_X10_71 (r_recv hW (x := 0) (List.mem_range.mpr (by decide)) rfl rfl) (hl.1) rfl rfl (Nat.le_of_ble_eq_true rfl) ⟨Nat.le_of_ble_eq_true rfl, Nat.le_of_ble_eq_true rfl⟩ ⟨Nat.le_of_ble_eq_true rfl, Nat.le_of_ble_eq_true rfl⟩ dX10_tunes_27) hW (fun r27 u27 H locs hp27 hW => ?_)
      obtain ⟨hp27, hp27m⟩ := hp27
      have hp27 := hp27.symm
      subst hp27
      have hp27m := hp27m.symm
      subst hp27m
      refine r_iret S hr hlk (F := (mE Z B)) (u := (up1 ν 0 (upd (ν 0) 0 (nI 2)))) hW ?_ dX10_tunes_30
      first | exact Or.inl ⟨hp2, rfl, rfl⟩ | exact Or.inr (Or.inl ⟨hp2, hp19, rfl, rfl⟩) | exact Or.inr (Or.inr ⟨q, hq, rfl, hp19, rfl, rfl⟩)
  · subst hp20
    refine lv_if_ne (tgt := 14) hxe hcd dX10_tunes_5 (by decide) (fun h => absurd h (by decide)) (fun _ => ?_)
    refine lv_aload_n hxe hcd dX10_tunes_8 rfl (lv_at hl 0 rfl) ?_
    refine lv_iconst (v := (nI 1)) hxe hcd dX10_tunes_9 (by decide) ?_
    refine r_calli (F := (mE Z B)) (r_runV hZ S hW (As := [.int (nI 1)]) (rest := []) (t_X10_fail l hZ B ν H.size (nI 1)) k_X10_71 (r_recv hW (x := 0) (List.mem_range.mpr (by decide)) rfl rfl) (hl.1) rfl rfl (Nat.le_of_ble_eq_true rfl) ⟨Nat.le_of_ble_eq_true rfl, Nat.le_of_ble_eq_true rfl⟩ ⟨Nat.le_of_ble_eq_true rfl, Nat.le_of_ble_eq_true rfl⟩ dX10_tunes_10) hW (fun r10 u10 H locs hp10 hW => ?_)
    obtain ⟨hp10, hp10m⟩ := hp10
    have hp10 := hp10.symm
    subst hp10
    have hp10m := hp10m.symm
    subst hp10m
    refine r_iret S hr hlk (F := (mE Z B)) (u := (up1 ν 0 (upd (ν 0) 0 (nI 1)))) hW ?_ dX10_tunes_13
    first | exact Or.inl ⟨hp2, rfl, rfl⟩ | exact Or.inr (Or.inl ⟨hp2, hp19, rfl, rfl⟩) | exact Or.inr (Or.inr ⟨q, hq, rfl, hp19, rfl, rfl⟩)
set_option maxHeartbeats 4000000 in
set_option maxRecDepth 100000 in
theorem t_X10_room (l : Launch) {Z : ZT} (hZ : zOK Z) (B : Nat → Nat) (ν : MM) (sz : Nat) {nt t : Nat} (h4 : nt ≤ 4) (ht : t < nt) (cp lv : Nat → Nat) (hV : VT (ν 1) nt cp lv) : XCi l yX10_room cX10_room 2 (some .int) 1 [.ref (B 0), .int (nI t)] Z mds B (mE Z B ν) sz (fun r => r = nI (cp t - lv t)) := by
  refine r_met (E := (mE Z B ν)) (by decide +kernel) (Nat.le_of_ble_eq_true rfl) ?_
  intro p e s m below meth c ls S hr hlk hnm hsz hW hl
  have hxe := S.1
  have hcd := S.2.1
  subst hsz
  have hl : lv_has ls 2 [(0, .ref (B 0)), (1, .int (nI t))] := hl
  have hv := hV t ht
  refine lv_aload_n hxe hcd dX10_room_0 rfl (lv_at hl 0 rfl) ?_
  refine gf_X10_16 S hW dX10_room_1 ?_
  refine lv_iload_n hxe hcd dX10_room_4 rfl (lv_at hl 1 rfl) ?_
  refine lv_iconst (v := (nI 0)) hxe hcd dX10_room_5 (by decide) ?_
  refine r_calli0 (r_runS hZ S hW (As := [.int (nI t), .int (nI 0)]) (rest := [.ref (B 1)]) (t_X10_of l hZ mds B (mE Z B ν) s.heap.size (t := t) (w := 0)) k_X10_144 (hl.1) rfl rfl (Nat.le_of_ble_eq_true rfl) ⟨Nat.le_of_ble_eq_true rfl, Nat.le_of_ble_eq_true rfl⟩ ⟨Nat.le_of_ble_eq_true rfl, Nat.le_of_ble_eq_true rfl⟩ dX10_room_6) hW (fun r6 H locs hp6 hW => ?_)
  have hp6 := hp6.symm
  subst hp6
  refine gm_ald S hW (i := 1) (k := (29 + 12 * t + 0)) (n := 1357) (by decide) (by decide) rfl (by omega) dX10_room_9 ?_
  refine r_as (y := (nI (cp t))) (hv.1) ?_
  refine lv_aload_n hxe hcd dX10_room_10 rfl (lv_at hl 0 rfl) ?_
  refine gf_X10_16 S hW dX10_room_11 ?_
  refine lv_iload_n hxe hcd dX10_room_14 rfl (lv_at hl 1 rfl) ?_
  refine lv_iconst (v := (nI 2)) hxe hcd dX10_room_15 (by decide) ?_
  refine r_calli0 (r_runS hZ S hW (As := [.int (nI t), .int (nI 2)]) (rest := [.ref (B 1), .int (nI (cp t))]) (t_X10_of l hZ mds B (mE Z B ν) H.size (t := t) (w := 2)) k_X10_144 (hl.1) rfl rfl (Nat.le_of_ble_eq_true rfl) ⟨Nat.le_of_ble_eq_true rfl, Nat.le_of_ble_eq_true rfl⟩ ⟨Nat.le_of_ble_eq_true rfl, Nat.le_of_ble_eq_true rfl⟩ dX10_room_16) hW (fun r16 H locs hp16 hW => ?_)
  have hp16 := hp16.symm
  subst hp16
  refine gm_ald S hW (i := 1) (k := (29 + 12 * t + 2)) (n := 1357) (by decide) (by decide) rfl (by omega) dX10_room_19 ?_
  refine r_as (y := (nI (lv t))) (hv.2.1) ?_
  refine n_isub S (a := (cp t)) (b := (lv t)) (by omega) dX10_room_20 ?_
  refine r_iret0 S hr hlk hW ?_ dX10_room_21
  rfl
set_option maxHeartbeats 4000000 in
set_option maxRecDepth 100000 in
theorem t_X10_tankFor (l : Launch) {Z : ZT} (hZ : zOK Z) (B : Nat → Nat) (ν : MM) (sz : Nat) {nt : Nat} (hnt : ν 1 1 = nI nt) (hnt4 : nt ≤ 4) (cp lv : Nat → Nat) (hV : VT (ν 1) nt cp lv) (x : Int32) : XCi l yX10_tankFor cX10_tankFor 5 (some .int) 2 [.ref (B 0), .int x] Z mds B (mE Z B ν) sz (fun r => r = oI (bstV (ν 1) x nt)) := by
  refine r_met (E := (mE Z B ν)) (by decide +kernel) (Nat.le_of_ble_eq_true rfl) ?_
  intro p e s m below meth c ls S hr hlk hnm hsz hW hl
  have hxe := S.1
  have hcd := S.2.1
  subst hsz
  have hl : lv_has ls 5 [(0, .ref (B 0)), (1, .int x)] := hl
  refine lv_iconst (v := (-1)) hxe hcd dX10_tankFor_0 (by decide) ?_
  refine lv_istore_n (lv' := [(2, .int (-1)), (0, .ref (B 0)), (1, .int x)]) hxe hcd dX10_tankFor_1 rfl hl (by decide) rfl (fun ls hl => ?_)
  refine lv_iconst (v := (nI 0)) hxe hcd dX10_tankFor_2 (by decide) ?_
  refine lv_istore_n (lv' := [(3, .int (nI 0)), (2, .int (-1)), (0, .ref (B 0)), (1, .int x)]) hxe hcd dX10_tankFor_3 rfl hl (by decide) rfl (fun ls hl => ?_)
  have loop4 : ∀ (n_ : Nat) (i : Nat), nt - i < n_ → (i ≤ nt) → ∀ (H : Heap) (locs : List Loc) (ls : Array Slot), wX Z mds B (mE Z B ν) (fA mds B (mE Z B ν) s.heap.size) s H locs → lv_has ls 5 [(0, .ref (B 0)), (1, .int x), (2, .int (oI (bstV (ν 1) x i))), (3, .int (nI i))] → W p l e (rmD 2 0 0) s m ([.ref (B 0), .int x] : List Value).toArray below meth c H locs 0 0 (MQ below (va_Qi (fun r (_ : Unit) => (fun r => r = oI (bstV (ν 1) x nt)) r) (fun _ t => qB Z mds B (mE Z B ν) (fA mds B (mE Z B ν) s.heap.size) t) (fA mds B (mE Z B ν) s.heap.size)) ([.ref (B 0), .int x] : List Value).toArray s 0 0 (fA mds B (mE Z B ν) s.heap.size)) (F0 m 4 ls []) := by
    intro n_
    induction n_ with
    | zero => intro i hm; exact absurd hm (Nat.not_lt_zero _)
    | succ n_ ih4 =>
      intro i hm hi H locs ls hW hl
      refine lv_iload_n hxe hcd dX10_tankFor_4 rfl (lv_at hl 3 rfl) ?_
      refine lv_aload_n hxe hcd dX10_tankFor_5 rfl (lv_at hl 0 rfl) ?_
      refine gf_X10_16 S hW dX10_tankFor_6 ?_
      refine lv_iconst (v := (nI 1)) hxe hcd dX10_tankFor_9 (by decide) ?_
      refine gm_ald S hW (i := 1) (k := 1) (n := 1357) (by decide) (by decide) rfl (by omega) dX10_tankFor_10 ?_
      refine r_as (y := (nI nt)) (hnt) ?_
      refine n_ge S (a := i) (b := nt) (by omega) (by omega) dX10_tankFor_11 (tgt := 77) (by decide) (fun c11 => ?_) (fun c11 => ?_)
      · refine lv_iload_n hxe hcd dX10_tankFor_77 rfl (lv_at hl 2 rfl) ?_
        refine r_iret0 S hr hlk hW ?_ dX10_tankFor_78
        rw [show i = nt by omega]
      · refine lv_aload_n hxe hcd dX10_tankFor_14 rfl (lv_at hl 0 rfl) ?_
        refine lv_iload_n hxe hcd dX10_tankFor_15 rfl (lv_at hl 3 rfl) ?_
        have hvi := hV i (by omega)
        refine r_calli0 (r_runV hZ S hW (As := [.int (nI i)]) (rest := []) (t_X10_room l hZ B ν H.size (nt := nt) (t := i) hnt4 (by omega) cp lv hV) k_X10_156 (r_recv hW (x := 0) (List.mem_range.mpr (by decide)) rfl rfl) (hl.1) rfl rfl (Nat.le_of_ble_eq_true rfl) ⟨Nat.le_of_ble_eq_true rfl, Nat.le_of_ble_eq_true rfl⟩ ⟨Nat.le_of_ble_eq_true rfl, Nat.le_of_ble_eq_true rfl⟩ dX10_tankFor_16) hW (fun r16 H locs hp16 hW => ?_)
        have hp16 := hp16.symm
        subst hp16
        refine n_ifle S (a := (cp i - lv i)) (by omega) dX10_tankFor_19 (tgt := 40) (by decide) (fun c19 => ?_) (fun c19 => ?_)
        · refine lv_iconst (v := (nI 0)) hxe hcd dX10_tankFor_40 (by decide) ?_
          refine lv_istore (lv' := [(4, .int (nI 0)), (0, .ref (B 0)), (1, .int x), (2, .int (oI (bstV (ν 1) x i))), (3, .int (nI i))]) hxe hcd dX10_tankFor_41 hl (by decide) rfl (fun ls hl => ?_)
          refine lv_iload hxe hcd dX10_tankFor_43 (lv_at hl 0 rfl) ?_
          refine lv_if_eq (tgt := 69) hxe hcd dX10_tankFor_45 (by decide) (fun _ => ?_) (fun h => absurd (by decide) h)
          refine lv_iload_n hxe hcd dX10_tankFor_69 rfl (lv_at hl 3 rfl) ?_
          refine lv_istore_n (lv' := [(2, .int (oI (bstV (ν 1) x i))), (4, .int (nI 0)), (0, .ref (B 0)), (1, .int x), (3, .int (nI i))]) hxe hcd dX10_tankFor_70 rfl hl (by decide) rfl (fun ls hl => ?_)
          refine lv_iinc (v := (nI (i + 1))) (lv' := [(3, .int (nI (i + 1))), (2, .int (oI (bstV (ν 1) x i))), (4, .int (nI 0)), (0, .ref (B 0)), (1, .int x)]) hxe hcd dX10_tankFor_71 hl (k := 4) rfl (nI_add i 1) (by decide) rfl (fun ls hl => ?_)
          refine lv_goto (tgt := 4) hxe hcd dX10_tankFor_74 (by decide) ?_
          have hl : lv_has ls 5 [(3, .int (nI (i + 1))), (2, .int (oI (bstV (ν 1) x (i + 1)))), (0, .ref (B 0)), (1, .int x)] := by
            rw [bstV_no hV (by omega) (fun h => by omega)]
            exact lv_sub hl [0, 1, 3, 4] rfl
          exact ih4 (i + 1) (by omega) (by omega) _ _ _ hW (lv_sub hl [2, 3, 1, 0] rfl)
        · refine lv_iload_n hxe hcd dX10_tankFor_22 rfl (lv_at hl 1 rfl) ?_
          refine lv_aload_n hxe hcd dX10_tankFor_23 rfl (lv_at hl 0 rfl) ?_
          refine gf_X10_16 S hW dX10_tankFor_24 ?_
          refine lv_iload_n hxe hcd dX10_tankFor_27 rfl (lv_at hl 3 rfl) ?_
          refine lv_iconst (v := (nI 1)) hxe hcd dX10_tankFor_28 (by decide) ?_
          refine r_calli0 (r_runS hZ S hW (As := [.int (nI i), .int (nI 1)]) (rest := [.ref (B 1), .int x]) (t_X10_of l hZ mds B (mE Z B ν) H.size (t := i) (w := 1)) k_X10_144 (hl.1) rfl rfl (Nat.le_of_ble_eq_true rfl) ⟨Nat.le_of_ble_eq_true rfl, Nat.le_of_ble_eq_true rfl⟩ ⟨Nat.le_of_ble_eq_true rfl, Nat.le_of_ble_eq_true rfl⟩ dX10_tankFor_29) hW (fun r29 H locs hp29 hW => ?_)
          have hp29 := hp29.symm
          subst hp29
          refine gm_ald S hW (i := 1) (k := (29 + 12 * i + 1)) (n := 1357) (by decide) (by decide) rfl (by omega) dX10_tankFor_32 ?_
          refine lv_icmp_gt (tgt := 40) hxe hcd dX10_tankFor_33 (by decide) (fun c33 => ?_) (fun c33 => ?_)
          · refine lv_iconst (v := (nI 0)) hxe hcd dX10_tankFor_40 (by decide) ?_
            refine lv_istore (lv' := [(4, .int (nI 0)), (0, .ref (B 0)), (1, .int x), (2, .int (oI (bstV (ν 1) x i))), (3, .int (nI i))]) hxe hcd dX10_tankFor_41 hl (by decide) rfl (fun ls hl => ?_)
            refine lv_iload hxe hcd dX10_tankFor_43 (lv_at hl 0 rfl) ?_
            refine lv_if_eq (tgt := 69) hxe hcd dX10_tankFor_45 (by decide) (fun _ => ?_) (fun h => absurd (by decide) h)
            refine lv_iload_n hxe hcd dX10_tankFor_69 rfl (lv_at hl 3 rfl) ?_
            refine lv_istore_n (lv' := [(2, .int (oI (bstV (ν 1) x i))), (4, .int (nI 0)), (0, .ref (B 0)), (1, .int x), (3, .int (nI i))]) hxe hcd dX10_tankFor_70 rfl hl (by decide) rfl (fun ls hl => ?_)
            refine lv_iinc (v := (nI (i + 1))) (lv' := [(3, .int (nI (i + 1))), (2, .int (oI (bstV (ν 1) x i))), (4, .int (nI 0)), (0, .ref (B 0)), (1, .int x)]) hxe hcd dX10_tankFor_71 hl (k := 4) rfl (nI_add i 1) (by decide) rfl (fun ls hl => ?_)
            refine lv_goto (tgt := 4) hxe hcd dX10_tankFor_74 (by decide) ?_
            have hl : lv_has ls 5 [(3, .int (nI (i + 1))), (2, .int (oI (bstV (ν 1) x (i + 1)))), (0, .ref (B 0)), (1, .int x)] := by
              rw [bstV_no hV (by omega) (fun h => I_nle.mpr c33 h.2)]
              exact lv_sub hl [0, 1, 3, 4] rfl
            exact ih4 (i + 1) (by omega) (by omega) _ _ _ hW (lv_sub hl [2, 3, 1, 0] rfl)
          · refine lv_iconst (v := (nI 1)) hxe hcd dX10_tankFor_36 (by decide) ?_
            refine lv_goto (tgt := 41) hxe hcd dX10_tankFor_37 (by decide) ?_
            refine lv_istore (lv' := [(4, .int (nI 1)), (0, .ref (B 0)), (1, .int x), (2, .int (oI (bstV (ν 1) x i))), (3, .int (nI i))]) hxe hcd dX10_tankFor_41 hl (by decide) rfl (fun ls hl => ?_)
            refine lv_iload hxe hcd dX10_tankFor_43 (lv_at hl 0 rfl) ?_
            refine lv_if_eq (tgt := 69) hxe hcd dX10_tankFor_45 (by decide) (fun h => absurd h (by decide)) (fun _ => ?_)
            rcases hB : bstV (ν 1) x i with _ | q
            · rw [hB, oI_none] at hl
              refine lv_iload_n hxe hcd dX10_tankFor_48 rfl (lv_at hl 3 rfl) ?_
              refine lv_if_lt (tgt := 65) hxe hcd dX10_tankFor_49 (by decide) (fun _ => ?_) (fun h => absurd (by decide) h)
              refine lv_iload_n hxe hcd dX10_tankFor_65 rfl (lv_at hl 4 rfl) ?_
              refine lv_goto (tgt := 70) hxe hcd dX10_tankFor_66 (by decide) ?_
              refine lv_istore_n (lv' := [(2, .int (nI i)), (4, .int (nI 1)), (0, .ref (B 0)), (1, .int x), (3, .int (nI i))]) hxe hcd dX10_tankFor_70 rfl hl (by decide) rfl (fun ls hl => ?_)
              refine lv_iinc (v := (nI (i + 1))) (lv' := [(3, .int (nI (i + 1))), (2, .int (nI i)), (4, .int (nI 1)), (0, .ref (B 0)), (1, .int x)]) hxe hcd dX10_tankFor_71 hl (k := 4) rfl (nI_add i 1) (by decide) rfl (fun ls hl => ?_)
              refine lv_goto (tgt := 4) hxe hcd dX10_tankFor_74 (by decide) ?_
              have hl : lv_has ls 5 [(3, .int (nI (i + 1))), (2, .int (oI (bstV (ν 1) x (i + 1)))), (0, .ref (B 0)), (1, .int x)] := by
                rw [bstV_none hV (by omega) ⟨by omega, I_nlt.mp c33⟩ hB]
                exact lv_sub hl [0, 1, 3, 4] rfl
              exact ih4 (i + 1) (by omega) (by omega) _ _ _ hW (lv_sub hl [2, 3, 1, 0] rfl)
            · rw [hB, oI_some] at hl
              have hbq := bstT_lt hB
              refine lv_iload_n hxe hcd dX10_tankFor_48 rfl (lv_at hl 3 rfl) ?_
              refine n_iflt S (a := q) (by omega) dX10_tankFor_49 (tgt := 65) (by decide) ?_
              refine lv_aload_n hxe hcd dX10_tankFor_52 rfl (lv_at hl 1 rfl) ?_
              refine lv_iload_n hxe hcd dX10_tankFor_53 rfl (lv_at hl 4 rfl) ?_
              have hvq := hV q (by omega)
              refine r_calli0 (r_runV hZ S hW (As := [.int (nI i)]) (rest := []) (t_X10_room l hZ B ν H.size (nt := nt) (t := i) hnt4 (by omega) cp lv hV) k_X10_156 (r_recv hW (x := 0) (List.mem_range.mpr (by decide)) rfl rfl) (hl.1) rfl rfl (Nat.le_of_ble_eq_true rfl) ⟨Nat.le_of_ble_eq_true rfl, Nat.le_of_ble_eq_true rfl⟩ ⟨Nat.le_of_ble_eq_true rfl, Nat.le_of_ble_eq_true rfl⟩ dX10_tankFor_54) hW (fun r54 H locs hp54 hW => ?_)
              have hp54 := hp54.symm
              subst hp54
              refine lv_aload_n hxe hcd dX10_tankFor_57 rfl (lv_at hl 1 rfl) ?_
              refine lv_iload_n hxe hcd dX10_tankFor_58 rfl (lv_at hl 3 rfl) ?_
              refine r_calli0 (r_runV hZ S hW (As := [.int (nI q)]) (rest := [.int (nI (cp i - lv i))]) (t_X10_room l hZ B ν H.size (nt := nt) (t := q) hnt4 (by omega) cp lv hV) k_X10_156 (r_recv hW (x := 0) (List.mem_range.mpr (by decide)) rfl rfl) (hl.1) rfl rfl (Nat.le_of_ble_eq_true rfl) ⟨Nat.le_of_ble_eq_true rfl, Nat.le_of_ble_eq_true rfl⟩ ⟨Nat.le_of_ble_eq_true rfl, Nat.le_of_ble_eq_true rfl⟩ dX10_tankFor_59) hW (fun r59 H locs hp59 hW => ?_)
              have hp59 := hp59.symm
              subst hp59
              refine n_le S (a := (cp i - lv i)) (b := (cp q - lv q)) (by omega) (by omega) dX10_tankFor_62 (tgt := 69) (by decide) (fun c62 => ?_) (fun c62 => ?_)
              · refine lv_iload_n hxe hcd dX10_tankFor_69 rfl (lv_at hl 3 rfl) ?_
                refine lv_istore_n (lv' := [(2, .int (nI q)), (4, .int (nI 1)), (0, .ref (B 0)), (1, .int x), (3, .int (nI i))]) hxe hcd dX10_tankFor_70 rfl hl (by decide) rfl (fun ls hl => ?_)
                refine lv_iinc (v := (nI (i + 1))) (lv' := [(3, .int (nI (i + 1))), (2, .int (nI q)), (4, .int (nI 1)), (0, .ref (B 0)), (1, .int x)]) hxe hcd dX10_tankFor_71 hl (k := 4) rfl (nI_add i 1) (by decide) rfl (fun ls hl => ?_)
                refine lv_goto (tgt := 4) hxe hcd dX10_tankFor_74 (by decide) ?_
                have hl : lv_has ls 5 [(3, .int (nI (i + 1))), (2, .int (oI (bstV (ν 1) x (i + 1)))), (0, .ref (B 0)), (1, .int x)] := by
                  rw [bstV_less hV (by omega) ⟨by omega, I_nlt.mp c33⟩ hB (by omega)]
                  exact lv_sub hl [0, 1, 3, 4] rfl
                exact ih4 (i + 1) (by omega) (by omega) _ _ _ hW (lv_sub hl [2, 3, 1, 0] rfl)
              · refine lv_iload_n hxe hcd dX10_tankFor_65 rfl (lv_at hl 4 rfl) ?_
                refine lv_goto (tgt := 70) hxe hcd dX10_tankFor_66 (by decide) ?_
                refine lv_istore_n (lv' := [(2, .int (nI i)), (4, .int (nI 1)), (0, .ref (B 0)), (1, .int x), (3, .int (nI i))]) hxe hcd dX10_tankFor_70 rfl hl (by decide) rfl (fun ls hl => ?_)
                refine lv_iinc (v := (nI (i + 1))) (lv' := [(3, .int (nI (i + 1))), (2, .int (nI i)), (4, .int (nI 1)), (0, .ref (B 0)), (1, .int x)]) hxe hcd dX10_tankFor_71 hl (k := 4) rfl (nI_add i 1) (by decide) rfl (fun ls hl => ?_)
                refine lv_goto (tgt := 4) hxe hcd dX10_tankFor_74 (by decide) ?_
                have hl : lv_has ls 5 [(3, .int (nI (i + 1))), (2, .int (oI (bstV (ν 1) x (i + 1)))), (0, .ref (B 0)), (1, .int x)] := by
                  rw [bstV_more hV (by omega) ⟨by omega, I_nlt.mp c33⟩ hB (by omega)]
                  exact lv_sub hl [0, 1, 3, 4] rfl
                exact ih4 (i + 1) (by omega) (by omega) _ _ _ hW (lv_sub hl [2, 3, 1, 0] rfl)
  exact loop4 (nt + 1) 0 (Nat.lt_succ_self _) (Nat.zero_le _) _ _ _ hW (lv_sub hl [2, 3, 1, 0] rfl)
set_option maxHeartbeats 4000000 in
set_option maxRecDepth 100000 in
theorem t_X10_pours (l : Launch) {Z : ZT} (hZ : zOK Z) (B : Nat → Nat) (ν : MM) (sz : Nat) {q n : Nat} (hq : q < 4) (hn : ν 1 (25 + q) = nI n) (hn2 : n ≤ 160) {nf : Nat} (hnf : ν 1 0 = nI nf) (hnf8 : nf ≤ 8) (ps : Nat → Nat) (hps : ∀ f, f < nf → ν 1 (13 + f) = nI (ps f) ∧ ps f ≤ 999 ∧ KP (ν 1 (5 + f)) (nI (ps f))) {nt : Nat} (hnt : ν 1 1 = nI nt) (hnt4 : nt ≤ 4) (cp lv : Nat → Nat) (hV : VT (ν 1) nt cp lv) : XMi l yX10_pours cX10_pours 7 (some .int) 3 [.ref (B 0), .int (nI q)] Z mds B (mE Z B) ν sz (fun r u => r = nI (pourC (ν 1) nt (ldV (flV (ν 1) q nf) n) ((n + 7) / 8)) ∧ ∃ o2 g2 : Nat → Int32, u = up1 (up1 (up1 ν 6 o2) 7 g2) 1 (pourN (ν 1) nt (ldV (flV (ν 1) q nf) n) ((n + 7) / 8))) := by
  refine r_met (E := (mE Z B ν)) (by decide +kernel) (Nat.le_of_ble_eq_true rfl) ?_
  intro p e s m below meth c ls S hr hlk hnm hsz hW hl
  have hxe := S.1
  have hcd := S.2.1
  subst hsz
  have hl : lv_has ls 7 [(0, .ref (B 0)), (1, .int (nI q))] := hl
  refine lv_aload_n hxe hcd dX10_pours_0 rfl (lv_at hl 0 rfl) ?_
  refine lv_iload_n hxe hcd dX10_pours_1 rfl (lv_at hl 1 rfl) ?_
  refine r_callv (F := (mE Z B)) (r_runV hZ S hW (As := [.int (nI q)]) (rest := []) (t_X10_filters l hZ B ν s.heap.size (q := q) (n := n) hq hn hn2 hnf hnf8 ps hps) k_X10_130 (r_recv hW (x := 0) (List.mem_range.mpr (by decide)) rfl rfl) (hl.1) rfl rfl (Nat.le_of_ble_eq_true rfl) ⟨Nat.le_of_ble_eq_true rfl, Nat.le_of_ble_eq_true rfl⟩ ⟨Nat.le_of_ble_eq_true rfl, Nat.le_of_ble_eq_true rfl⟩ dX10_pours_2) hW (fun u2 H locs hp2 hW => ?_)
  obtain ⟨o2, g2, hm2, hO2⟩ := hp2
  subst hm2
  refine lv_iconst (v := (nI 0)) hxe hcd dX10_pours_5 (by decide) ?_
  refine lv_istore_n (lv' := [(2, .int (nI 0)), (0, .ref (B 0)), (1, .int (nI q))]) hxe hcd dX10_pours_6 rfl hl (by decide) rfl (fun ls hl => ?_)
  refine lv_aload_n hxe hcd dX10_pours_7 rfl (lv_at hl 1 rfl) ?_
  refine gf_X10_16 S hW dX10_pours_8 ?_
  refine lv_bipush (v := (nI 25)) hxe hcd dX10_pours_11 (by decide) ?_
  refine lv_iload_n hxe hcd dX10_pours_13 rfl (lv_at hl 2 rfl) ?_
  refine n_iadd S (a := 25) (b := q) dX10_pours_14 ?_
  refine gm_ald S hW (i := 1) (k := (25 + q)) (n := 1357) (by decide) (by decide) rfl (by omega) dX10_pours_15 ?_
  refine r_as (y := (nI n)) (by rw [up1_o (j := 1) (i := 7) (by decide), up1_o (j := 1) (i := 6) (by decide), hn]) ?_
  refine lv_istore_n (lv' := [(3, .int (nI n)), (2, .int (nI 0)), (0, .ref (B 0)), (1, .int (nI q))]) hxe hcd dX10_pours_16 rfl hl (by decide) rfl (fun ls hl => ?_)
  refine lv_iconst (v := (nI 0)) hxe hcd dX10_pours_17 (by decide) ?_
  refine lv_istore (lv' := [(4, .int (nI 0)), (3, .int (nI n)), (2, .int (nI 0)), (0, .ref (B 0)), (1, .int (nI q))]) hxe hcd dX10_pours_18 hl (by decide) rfl (fun ls hl => ?_)
  have hl : lv_has ls 7 [(4, .int (nI (0 * 8))), (3, .int (nI n)), (2, .int (nI (pourC (ν 1) nt (ldV (flV (ν 1) q nf) n) 0))), (0, .ref (B 0)), (1, .int (nI q))] := hl
  have loop20 : ∀ (n_ : Nat) (k : Nat), (n + 7) / 8 - k < n_ → (k ≤ (n + 7) / 8) → ∀ (H : Heap) (locs : List Loc) (ls : Array Slot), wX Z mds B (mE Z B (up1 (up1 (up1 ν 6 o2) 7 g2) 1 (pourN (ν 1) nt (ldV (flV (ν 1) q nf) n) k))) (fA mds B (mE Z B ν) s.heap.size) s H locs → lv_has ls 7 [(0, .ref (B 0)), (1, .int (nI q)), (2, .int (nI (pourC (ν 1) nt (ldV (flV (ν 1) q nf) n) k))), (3, .int (nI n)), (4, .int (nI (k * 8)))] → W p l e (rmD 3 0 0) s m ([.ref (B 0), .int (nI q)] : List Value).toArray below meth c H locs 0 0 (MQ below (va_Qi (fun r u => r = nI (pourC (ν 1) nt (ldV (flV (ν 1) q nf) n) ((n + 7) / 8)) ∧ ∃ o2 g2 : Nat → Int32, u = up1 (up1 (up1 ν 6 o2) 7 g2) 1 (pourN (ν 1) nt (ldV (flV (ν 1) q nf) n) ((n + 7) / 8))) (fun u t => qB Z mds B ((mE Z B) u) (fA mds B (mE Z B ν) s.heap.size) t) (fA mds B (mE Z B ν) s.heap.size)) ([.ref (B 0), .int (nI q)] : List Value).toArray s 0 0 (fA mds B (mE Z B ν) s.heap.size)) (F0 m 20 ls []) := by
    intro n_
    induction n_ with
    | zero => intro k hm; exact absurd hm (Nat.not_lt_zero _)
    | succ n_ ih20 =>
      intro k hm hk H locs ls hW hl
      obtain ⟨lv2, hV2⟩ := pourN_VT (L := (ldV (flV (ν 1) q nf) n)) hV hnt4 k
      refine lv_iload hxe hcd dX10_pours_20 (lv_at hl 4 rfl) ?_
      refine lv_iload_n hxe hcd dX10_pours_22 rfl (lv_at hl 3 rfl) ?_
      refine n_ge S (a := (k * 8)) (b := n) (by omega) (by omega) dX10_pours_23 (tgt := 136) (by decide) (fun c23 => ?_) (fun c23 => ?_)
      · refine lv_iload_n hxe hcd dX10_pours_136 rfl (lv_at hl 2 rfl) ?_
        refine r_iret S hr hlk (F := (mE Z B)) (u := (up1 (up1 (up1 ν 6 o2) 7 g2) 1 (pourN (ν 1) nt (ldV (flV (ν 1) q nf) n) k))) hW ?_ dX10_pours_137
        have e : k = (n + 7) / 8 := by omega
        rw [e]
        exact ⟨rfl, o2, g2, rfl⟩
      · refine lv_aload_n hxe hcd dX10_pours_26 rfl (lv_at hl 0 rfl) ?_
        refine lv_iload hxe hcd dX10_pours_27 (lv_at hl 4 rfl) ?_
        refine lv_iload hxe hcd dX10_pours_29 (lv_at hl 4 rfl) ?_
        refine lv_bipush (v := (nI 8)) hxe hcd dX10_pours_31 (by decide) ?_
        refine n_iadd S (a := (k * 8)) (b := 8) dX10_pours_33 ?_
        refine lv_iload_n hxe hcd dX10_pours_34 rfl (lv_at hl 3 rfl) ?_
        refine n_ge S (a := ((k * 8) + 8)) (b := n) (by omega) (by omega) dX10_pours_35 (tgt := 46) (by decide) (fun c35 => ?_) (fun c35 => ?_)
        · refine lv_iload_n hxe hcd dX10_pours_46 rfl (lv_at hl 3 rfl) ?_
          refine r_calli0 (r_runV hZ S hW (As := [.int (nI (k * 8)), .int (nI n)]) (rest := []) (t_X10_loud l hZ B (up1 (up1 (up1 ν 6 o2) 7 g2) 1 (pourN (ν 1) nt (ldV (flV (ν 1) q nf) n) k)) H.size (a := (k * 8)) (b0 := n) (by omega) (by omega)) k_X10_137 (r_recv hW (x := 0) (List.mem_range.mpr (by decide)) rfl rfl) (hl.1) rfl rfl (Nat.le_of_ble_eq_true rfl) ⟨Nat.le_of_ble_eq_true rfl, Nat.le_of_ble_eq_true rfl⟩ ⟨Nat.le_of_ble_eq_true rfl, Nat.le_of_ble_eq_true rfl⟩ dX10_pours_47) hW (fun r47 H locs hp47 hW => ?_)
          have hp47 := hp47.symm
          subst hp47
          refine r_as (y := ((ldV (flV (ν 1) q nf) n) k)) (by rw [ldV, up1_o (j := 6) (i := 1) (by decide), up1_o (j := 6) (i := 7) (by decide), up1_s]; first | (rw [Nat.min_eq_left (by omega)]; exact maxR_congr (fun j hj => by rw [hO2 _ (by omega)])) | (rw [Nat.min_eq_right (by omega)]; exact maxR_congr (fun j hj => by rw [hO2 _ (by omega)]))) ?_
          refine lv_istore (lv' := [(5, .int ((ldV (flV (ν 1) q nf) n) k)), (0, .ref (B 0)), (1, .int (nI q)), (2, .int (nI (pourC (ν 1) nt (ldV (flV (ν 1) q nf) n) k))), (3, .int (nI n)), (4, .int (nI (k * 8)))]) hxe hcd dX10_pours_50 hl (by decide) rfl (fun ls hl => ?_)
          refine lv_aload_n hxe hcd dX10_pours_52 rfl (lv_at hl 1 rfl) ?_
          refine lv_iload hxe hcd dX10_pours_53 (lv_at hl 0 rfl) ?_
          refine r_calli0 (r_runV hZ S hW (As := [.int ((ldV (flV (ν 1) q nf) n) k)]) (rest := []) (t_X10_tankFor l hZ B (up1 (up1 (up1 ν 6 o2) 7 g2) 1 (pourN (ν 1) nt (ldV (flV (ν 1) q nf) n) k)) H.size (nt := nt) (by rw [up1_s, pourN_lo hV hnt4 (by omega) (by decide) (by decide)]; exact hnt) hnt4 cp lv2 (by rw [up1_s]; exact hV2) ((ldV (flV (ν 1) q nf) n) k)) k_X10_159 (r_recv hW (x := 0) (List.mem_range.mpr (by decide)) rfl rfl) (hl.1) rfl rfl (Nat.le_of_ble_eq_true rfl) ⟨Nat.le_of_ble_eq_true rfl, Nat.le_of_ble_eq_true rfl⟩ ⟨Nat.le_of_ble_eq_true rfl, Nat.le_of_ble_eq_true rfl⟩ dX10_pours_55) hW (fun r55 H locs hp55 hW => ?_)
          have hp55 := hp55.symm
          subst hp55
          refine r_as (y := (oI (bstV (pourN (ν 1) nt (ldV (flV (ν 1) q nf) n) k) ((ldV (flV (ν 1) q nf) n) k) nt))) (by rw [up1_s]) ?_
          refine lv_istore (lv' := [(6, .int (oI (bstV (pourN (ν 1) nt (ldV (flV (ν 1) q nf) n) k) ((ldV (flV (ν 1) q nf) n) k) nt))), (5, .int ((ldV (flV (ν 1) q nf) n) k)), (0, .ref (B 0)), (1, .int (nI q)), (2, .int (nI (pourC (ν 1) nt (ldV (flV (ν 1) q nf) n) k))), (3, .int (nI n)), (4, .int (nI (k * 8)))]) hxe hcd dX10_pours_58 hl (by decide) rfl (fun ls hl => ?_)
          rcases hB : bstV (pourN (ν 1) nt (ldV (flV (ν 1) q nf) n) k) ((ldV (flV (ν 1) q nf) n) k) nt with _ | t
          · rw [hB, oI_none] at hl
            refine lv_aload_n hxe hcd dX10_pours_60 rfl (lv_at hl 2 rfl) ?_
            refine gf_X10_16 S hW dX10_pours_61 ?_
            refine lv_iload hxe hcd dX10_pours_64 (lv_at hl 0 rfl) ?_
            refine lv_if_ge (tgt := 73) hxe hcd dX10_pours_66 (by decide) (fun h => absurd h (by decide)) (fun _ => ?_)
            refine lv_iconst (v := (nI 3)) hxe hcd dX10_pours_69 (by decide) ?_
            refine lv_goto (tgt := 74) hxe hcd dX10_pours_70 (by decide) ?_
            refine lv_dup2_11 hxe hcd dX10_pours_74 rfl rfl ?_
            refine gm_ald S hW (i := 1) (k := 3) (n := 1357) (by decide) (by decide) rfl (by omega) dX10_pours_75 ?_
            refine lv_iconst (v := (nI 1)) hxe hcd dX10_pours_76 (by decide) ?_
            refine lv_iadd hxe hcd dX10_pours_77 ?_
            refine gm_ast S hW (i := 1) (k := 3) (n := 1357) (by decide) (by decide) rfl (by omega) dX10_pours_78 (fun H locs hW => ?_)
            refine lv_iload hxe hcd dX10_pours_79 (lv_at hl 0 rfl) ?_
            refine lv_if_ge (tgt := 87) hxe hcd dX10_pours_81 (by decide) (fun h => absurd h (by decide)) (fun _ => ?_)
            refine lv_goto (tgt := 130) hxe hcd dX10_pours_84 (by decide) ?_
            refine lv_iinc (v := (nI ((k * 8) + 8))) (lv' := [(4, .int (nI ((k * 8) + 8))), (6, .int (-1)), (5, .int ((ldV (flV (ν 1) q nf) n) k)), (0, .ref (B 0)), (1, .int (nI q)), (2, .int (nI (pourC (ν 1) nt (ldV (flV (ν 1) q nf) n) k))), (3, .int (nI n))]) hxe hcd dX10_pours_130 hl (k := 6) rfl (nI_add (k * 8) 8) (by decide) rfl (fun ls hl => ?_)
            refine lv_goto (tgt := 20) hxe hcd dX10_pours_133 (by decide) ?_
            have hl : lv_has ls 7 [(4, .int (nI ((k + 1) * 8))), (3, .int (nI n)), (2, .int (nI (pourC (ν 1) nt (ldV (flV (ν 1) q nf) n) (k + 1)))), (0, .ref (B 0)), (1, .int (nI q))] := by
              rw [show (k + 1) * 8 = k * 8 + 8 by omega, pourC_none hB]
              exact lv_sub hl [0, 6, 5, 3, 4] rfl
            exact ih20 (k + 1) (by omega) (by omega) _ _ _ (by simp only [up1_s, up1_2] at hW; rw [pourN, pourF_none hB]; exact hW) (lv_sub hl [3, 4, 2, 1, 0] rfl)
          · rw [hB, oI_some] at hl
            have hbq := bstT_lt hB
            refine lv_aload_n hxe hcd dX10_pours_60 rfl (lv_at hl 2 rfl) ?_
            refine gf_X10_16 S hW dX10_pours_61 ?_
            refine lv_iload hxe hcd dX10_pours_64 (lv_at hl 0 rfl) ?_
            refine n_ifge S (a := t) (by omega) dX10_pours_66 (tgt := 73) (by decide) ?_
            refine lv_iconst (v := (nI 2)) hxe hcd dX10_pours_73 (by decide) ?_
            refine lv_dup2_11 hxe hcd dX10_pours_74 rfl rfl ?_
            refine gm_ald S hW (i := 1) (k := 2) (n := 1357) (by decide) (by decide) rfl (by omega) dX10_pours_75 ?_
            refine lv_iconst (v := (nI 1)) hxe hcd dX10_pours_76 (by decide) ?_
            refine lv_iadd hxe hcd dX10_pours_77 ?_
            refine gm_ast S hW (i := 1) (k := 2) (n := 1357) (by decide) (by decide) rfl (by omega) dX10_pours_78 (fun H locs hW => ?_)
            refine lv_iload hxe hcd dX10_pours_79 (lv_at hl 0 rfl) ?_
            refine n_ifge S (a := t) (by omega) dX10_pours_81 (tgt := 87) (by decide) ?_
            have ht := hbq.1
            have hvt := hV2 t ht
            have hlt := (bstV_lt hV2 hB).2
            refine lv_aload_n hxe hcd dX10_pours_87 rfl (lv_at hl 2 rfl) ?_
            refine gf_X10_16 S hW dX10_pours_88 ?_
            refine lv_iload hxe hcd dX10_pours_91 (lv_at hl 0 rfl) ?_
            refine lv_iconst (v := (nI 3)) hxe hcd dX10_pours_93 (by decide) ?_
            refine lv_aload_n hxe hcd dX10_pours_94 rfl (lv_at hl 2 rfl) ?_
            refine gf_X10_16 S hW dX10_pours_95 ?_
            refine lv_iload hxe hcd dX10_pours_98 (lv_at hl 0 rfl) ?_
            refine lv_iconst (v := (nI 2)) hxe hcd dX10_pours_100 (by decide) ?_
            refine r_calli0 (r_runS hZ S hW (As := [.int (nI t), .int (nI 2)]) (rest := [.ref (B 1), .int (nI 3), .int (nI t), .ref (B 1)]) (t_X10_of l hZ mds B (mE Z B (up1 (up1 (up1 (up1 ν 6 o2) 7 g2) 1 (pourN (ν 1) nt (ldV (flV (ν 1) q nf) n) k)) 1 (upd ((up1 (up1 (up1 ν 6 o2) 7 g2) 1 (pourN (ν 1) nt (ldV (flV (ν 1) q nf) n) k)) 1) 2 (((up1 (up1 (up1 ν 6 o2) 7 g2) 1 (pourN (ν 1) nt (ldV (flV (ν 1) q nf) n) k)) 1 2) + (nI 1))))) H.size (t := t) (w := 2)) k_X10_144 (hl.1) rfl rfl (Nat.le_of_ble_eq_true rfl) ⟨Nat.le_of_ble_eq_true rfl, Nat.le_of_ble_eq_true rfl⟩ ⟨Nat.le_of_ble_eq_true rfl, Nat.le_of_ble_eq_true rfl⟩ dX10_pours_101) hW (fun r101 H locs hp101 hW => ?_)
            have hp101 := hp101.symm
            subst hp101
            refine gm_ald S hW (i := 1) (k := (29 + 12 * t + 2)) (n := 1357) (by decide) (by decide) rfl (by omega) dX10_pours_104 ?_
            refine r_as (y := (nI (lv2 t))) (by simp only [up1_s]; rw [upd_o (by omega)]; exact (hV2 t ht).2.1) ?_
            refine n_iadd S (a := 3) (b := (lv2 t)) dX10_pours_105 ?_
            refine r_calli0 (r_runS hZ S hW (As := [.int (nI t), .int (nI (3 + (lv2 t)))]) (rest := [.ref (B 1)]) (t_X10_of l hZ mds B (mE Z B (up1 (up1 (up1 (up1 ν 6 o2) 7 g2) 1 (pourN (ν 1) nt (ldV (flV (ν 1) q nf) n) k)) 1 (upd ((up1 (up1 (up1 ν 6 o2) 7 g2) 1 (pourN (ν 1) nt (ldV (flV (ν 1) q nf) n) k)) 1) 2 (((up1 (up1 (up1 ν 6 o2) 7 g2) 1 (pourN (ν 1) nt (ldV (flV (ν 1) q nf) n) k)) 1 2) + (nI 1))))) H.size (t := t) (w := (3 + (lv2 t)))) k_X10_144 (hl.1) rfl rfl (Nat.le_of_ble_eq_true rfl) ⟨Nat.le_of_ble_eq_true rfl, Nat.le_of_ble_eq_true rfl⟩ ⟨Nat.le_of_ble_eq_true rfl, Nat.le_of_ble_eq_true rfl⟩ dX10_pours_106) hW (fun r106 H locs hp106 hW => ?_)
            have hp106 := hp106.symm
            subst hp106
            refine lv_iload hxe hcd dX10_pours_109 (lv_at hl 1 rfl) ?_
            refine gm_ast S hW (i := 1) (k := (29 + 12 * t + (3 + (lv2 t)))) (n := 1357) (by decide) (by decide) rfl (by omega) dX10_pours_111 (fun H locs hW => ?_)
            refine lv_aload_n hxe hcd dX10_pours_112 rfl (lv_at hl 2 rfl) ?_
            refine gf_X10_16 S hW dX10_pours_113 ?_
            refine lv_iload hxe hcd dX10_pours_116 (lv_at hl 0 rfl) ?_
            refine lv_iconst (v := (nI 2)) hxe hcd dX10_pours_118 (by decide) ?_
            refine r_calli0 (r_runS hZ S hW (As := [.int (nI t), .int (nI 2)]) (rest := [.ref (B 1)]) (t_X10_of l hZ mds B (mE Z B (up1 (up1 (up1 (up1 (up1 ν 6 o2) 7 g2) 1 (pourN (ν 1) nt (ldV (flV (ν 1) q nf) n) k)) 1 (upd ((up1 (up1 (up1 ν 6 o2) 7 g2) 1 (pourN (ν 1) nt (ldV (flV (ν 1) q nf) n) k)) 1) 2 (((up1 (up1 (up1 ν 6 o2) 7 g2) 1 (pourN (ν 1) nt (ldV (flV (ν 1) q nf) n) k)) 1 2) + (nI 1)))) 1 (upd ((up1 (up1 (up1 (up1 ν 6 o2) 7 g2) 1 (pourN (ν 1) nt (ldV (flV (ν 1) q nf) n) k)) 1 (upd ((up1 (up1 (up1 ν 6 o2) 7 g2) 1 (pourN (ν 1) nt (ldV (flV (ν 1) q nf) n) k)) 1) 2 (((up1 (up1 (up1 ν 6 o2) 7 g2) 1 (pourN (ν 1) nt (ldV (flV (ν 1) q nf) n) k)) 1 2) + (nI 1)))) 1) (29 + 12 * t + (3 + (lv2 t))) ((ldV (flV (ν 1) q nf) n) k)))) H.size (t := t) (w := 2)) k_X10_144 (hl.1) rfl rfl (Nat.le_of_ble_eq_true rfl) ⟨Nat.le_of_ble_eq_true rfl, Nat.le_of_ble_eq_true rfl⟩ ⟨Nat.le_of_ble_eq_true rfl, Nat.le_of_ble_eq_true rfl⟩ dX10_pours_119) hW (fun r119 H locs hp119 hW => ?_)
            have hp119 := hp119.symm
            subst hp119
            refine lv_dup2_11 hxe hcd dX10_pours_122 rfl rfl ?_
            refine gm_ald S hW (i := 1) (k := (29 + 12 * t + 2)) (n := 1357) (by decide) (by decide) rfl (by omega) dX10_pours_123 ?_
            refine r_as (y := (nI (lv2 t))) (by simp only [up1_s]; rw [upd_o (by omega), upd_o (by omega)]; exact (hV2 t ht).2.1) ?_
            refine lv_iconst (v := (nI 1)) hxe hcd dX10_pours_124 (by decide) ?_
            refine n_iadd S (a := (lv2 t)) (b := 1) dX10_pours_125 ?_
            refine gm_ast S hW (i := 1) (k := (29 + 12 * t + 2)) (n := 1357) (by decide) (by decide) rfl (by omega) dX10_pours_126 (fun H locs hW => ?_)
            refine lv_iinc (v := (nI ((pourC (ν 1) nt (ldV (flV (ν 1) q nf) n) k) + 1))) (lv' := [(2, .int (nI ((pourC (ν 1) nt (ldV (flV (ν 1) q nf) n) k) + 1))), (6, .int (nI t)), (5, .int ((ldV (flV (ν 1) q nf) n) k)), (0, .ref (B 0)), (1, .int (nI q)), (3, .int (nI n)), (4, .int (nI (k * 8)))]) hxe hcd dX10_pours_127 hl (k := 4) rfl (nI_add (pourC (ν 1) nt (ldV (flV (ν 1) q nf) n) k) 1) (by decide) rfl (fun ls hl => ?_)
            refine lv_iinc (v := (nI ((k * 8) + 8))) (lv' := [(4, .int (nI ((k * 8) + 8))), (2, .int (nI ((pourC (ν 1) nt (ldV (flV (ν 1) q nf) n) k) + 1))), (6, .int (nI t)), (5, .int ((ldV (flV (ν 1) q nf) n) k)), (0, .ref (B 0)), (1, .int (nI q)), (3, .int (nI n))]) hxe hcd dX10_pours_130 hl (k := 6) rfl (nI_add (k * 8) 8) (by decide) rfl (fun ls hl => ?_)
            refine lv_goto (tgt := 20) hxe hcd dX10_pours_133 (by decide) ?_
            have hl : lv_has ls 7 [(4, .int (nI ((k + 1) * 8))), (3, .int (nI n)), (2, .int (nI (pourC (ν 1) nt (ldV (flV (ν 1) q nf) n) (k + 1)))), (0, .ref (B 0)), (1, .int (nI q))] := by
              rw [show (k + 1) * 8 = k * 8 + 8 by omega, pourC_some hB]
              exact lv_sub hl [0, 6, 1, 4, 5] rfl
            exact ih20 (k + 1) (by omega) (by omega) _ _ _ (by simp only [up1_s, up1_2] at hW; rw [pourN, pourF_some hB (hV2 t ht).2.1 (by have := hV2 t ht; omega)]; exact hW) (lv_sub hl [3, 4, 2, 1, 0] rfl)
        · refine lv_iload hxe hcd dX10_pours_38 (lv_at hl 4 rfl) ?_
          refine lv_bipush (v := (nI 8)) hxe hcd dX10_pours_40 (by decide) ?_
          refine n_iadd S (a := (k * 8)) (b := 8) dX10_pours_42 ?_
          refine lv_goto (tgt := 47) hxe hcd dX10_pours_43 (by decide) ?_
          refine r_calli0 (r_runV hZ S hW (As := [.int (nI (k * 8)), .int (nI ((k * 8) + 8))]) (rest := []) (t_X10_loud l hZ B (up1 (up1 (up1 ν 6 o2) 7 g2) 1 (pourN (ν 1) nt (ldV (flV (ν 1) q nf) n) k)) H.size (a := (k * 8)) (b0 := ((k * 8) + 8)) (by omega) (by omega)) k_X10_137 (r_recv hW (x := 0) (List.mem_range.mpr (by decide)) rfl rfl) (hl.1) rfl rfl (Nat.le_of_ble_eq_true rfl) ⟨Nat.le_of_ble_eq_true rfl, Nat.le_of_ble_eq_true rfl⟩ ⟨Nat.le_of_ble_eq_true rfl, Nat.le_of_ble_eq_true rfl⟩ dX10_pours_47) hW (fun r47 H locs hp47 hW => ?_)
          have hp47 := hp47.symm
          subst hp47
          refine r_as (y := ((ldV (flV (ν 1) q nf) n) k)) (by rw [ldV, up1_o (j := 6) (i := 1) (by decide), up1_o (j := 6) (i := 7) (by decide), up1_s]; first | (rw [Nat.min_eq_left (by omega)]; exact maxR_congr (fun j hj => by rw [hO2 _ (by omega)])) | (rw [Nat.min_eq_right (by omega)]; exact maxR_congr (fun j hj => by rw [hO2 _ (by omega)]))) ?_
          refine lv_istore (lv' := [(5, .int ((ldV (flV (ν 1) q nf) n) k)), (0, .ref (B 0)), (1, .int (nI q)), (2, .int (nI (pourC (ν 1) nt (ldV (flV (ν 1) q nf) n) k))), (3, .int (nI n)), (4, .int (nI (k * 8)))]) hxe hcd dX10_pours_50 hl (by decide) rfl (fun ls hl => ?_)
          refine lv_aload_n hxe hcd dX10_pours_52 rfl (lv_at hl 1 rfl) ?_
          refine lv_iload hxe hcd dX10_pours_53 (lv_at hl 0 rfl) ?_
          refine r_calli0 (r_runV hZ S hW (As := [.int ((ldV (flV (ν 1) q nf) n) k)]) (rest := []) (t_X10_tankFor l hZ B (up1 (up1 (up1 ν 6 o2) 7 g2) 1 (pourN (ν 1) nt (ldV (flV (ν 1) q nf) n) k)) H.size (nt := nt) (by rw [up1_s, pourN_lo hV hnt4 (by omega) (by decide) (by decide)]; exact hnt) hnt4 cp lv2 (by rw [up1_s]; exact hV2) ((ldV (flV (ν 1) q nf) n) k)) k_X10_159 (r_recv hW (x := 0) (List.mem_range.mpr (by decide)) rfl rfl) (hl.1) rfl rfl (Nat.le_of_ble_eq_true rfl) ⟨Nat.le_of_ble_eq_true rfl, Nat.le_of_ble_eq_true rfl⟩ ⟨Nat.le_of_ble_eq_true rfl, Nat.le_of_ble_eq_true rfl⟩ dX10_pours_55) hW (fun r55 H locs hp55 hW => ?_)
          have hp55 := hp55.symm
          subst hp55
          refine r_as (y := (oI (bstV (pourN (ν 1) nt (ldV (flV (ν 1) q nf) n) k) ((ldV (flV (ν 1) q nf) n) k) nt))) (by rw [up1_s]) ?_
          refine lv_istore (lv' := [(6, .int (oI (bstV (pourN (ν 1) nt (ldV (flV (ν 1) q nf) n) k) ((ldV (flV (ν 1) q nf) n) k) nt))), (5, .int ((ldV (flV (ν 1) q nf) n) k)), (0, .ref (B 0)), (1, .int (nI q)), (2, .int (nI (pourC (ν 1) nt (ldV (flV (ν 1) q nf) n) k))), (3, .int (nI n)), (4, .int (nI (k * 8)))]) hxe hcd dX10_pours_58 hl (by decide) rfl (fun ls hl => ?_)
          rcases hB : bstV (pourN (ν 1) nt (ldV (flV (ν 1) q nf) n) k) ((ldV (flV (ν 1) q nf) n) k) nt with _ | t
          · rw [hB, oI_none] at hl
            refine lv_aload_n hxe hcd dX10_pours_60 rfl (lv_at hl 2 rfl) ?_
            refine gf_X10_16 S hW dX10_pours_61 ?_
            refine lv_iload hxe hcd dX10_pours_64 (lv_at hl 0 rfl) ?_
            refine lv_if_ge (tgt := 73) hxe hcd dX10_pours_66 (by decide) (fun h => absurd h (by decide)) (fun _ => ?_)
            refine lv_iconst (v := (nI 3)) hxe hcd dX10_pours_69 (by decide) ?_
            refine lv_goto (tgt := 74) hxe hcd dX10_pours_70 (by decide) ?_
            refine lv_dup2_11 hxe hcd dX10_pours_74 rfl rfl ?_
            refine gm_ald S hW (i := 1) (k := 3) (n := 1357) (by decide) (by decide) rfl (by omega) dX10_pours_75 ?_
            refine lv_iconst (v := (nI 1)) hxe hcd dX10_pours_76 (by decide) ?_
            refine lv_iadd hxe hcd dX10_pours_77 ?_
            refine gm_ast S hW (i := 1) (k := 3) (n := 1357) (by decide) (by decide) rfl (by omega) dX10_pours_78 (fun H locs hW => ?_)
            refine lv_iload hxe hcd dX10_pours_79 (lv_at hl 0 rfl) ?_
            refine lv_if_ge (tgt := 87) hxe hcd dX10_pours_81 (by decide) (fun h => absurd h (by decide)) (fun _ => ?_)
            refine lv_goto (tgt := 130) hxe hcd dX10_pours_84 (by decide) ?_
            refine lv_iinc (v := (nI ((k * 8) + 8))) (lv' := [(4, .int (nI ((k * 8) + 8))), (6, .int (-1)), (5, .int ((ldV (flV (ν 1) q nf) n) k)), (0, .ref (B 0)), (1, .int (nI q)), (2, .int (nI (pourC (ν 1) nt (ldV (flV (ν 1) q nf) n) k))), (3, .int (nI n))]) hxe hcd dX10_pours_130 hl (k := 6) rfl (nI_add (k * 8) 8) (by decide) rfl (fun ls hl => ?_)
            refine lv_goto (tgt := 20) hxe hcd dX10_pours_133 (by decide) ?_
            have hl : lv_has ls 7 [(4, .int (nI ((k + 1) * 8))), (3, .int (nI n)), (2, .int (nI (pourC (ν 1) nt (ldV (flV (ν 1) q nf) n) (k + 1)))), (0, .ref (B 0)), (1, .int (nI q))] := by
              rw [show (k + 1) * 8 = k * 8 + 8 by omega, pourC_none hB]
              exact lv_sub hl [0, 6, 5, 3, 4] rfl
            exact ih20 (k + 1) (by omega) (by omega) _ _ _ (by simp only [up1_s, up1_2] at hW; rw [pourN, pourF_none hB]; exact hW) (lv_sub hl [3, 4, 2, 1, 0] rfl)
          · rw [hB, oI_some] at hl
            have hbq := bstT_lt hB
            refine lv_aload_n hxe hcd dX10_pours_60 rfl (lv_at hl 2 rfl) ?_
            refine gf_X10_16 S hW dX10_pours_61 ?_
            refine lv_iload hxe hcd dX10_pours_64 (lv_at hl 0 rfl) ?_
            refine n_ifge S (a := t) (by omega) dX10_pours_66 (tgt := 73) (by decide) ?_
            refine lv_iconst (v := (nI 2)) hxe hcd dX10_pours_73 (by decide) ?_
            refine lv_dup2_11 hxe hcd dX10_pours_74 rfl rfl ?_
            refine gm_ald S hW (i := 1) (k := 2) (n := 1357) (by decide) (by decide) rfl (by omega) dX10_pours_75 ?_
            refine lv_iconst (v := (nI 1)) hxe hcd dX10_pours_76 (by decide) ?_
            refine lv_iadd hxe hcd dX10_pours_77 ?_
            refine gm_ast S hW (i := 1) (k := 2) (n := 1357) (by decide) (by decide) rfl (by omega) dX10_pours_78 (fun H locs hW => ?_)
            refine lv_iload hxe hcd dX10_pours_79 (lv_at hl 0 rfl) ?_
            refine n_ifge S (a := t) (by omega) dX10_pours_81 (tgt := 87) (by decide) ?_
            have ht := hbq.1
            have hvt := hV2 t ht
            have hlt := (bstV_lt hV2 hB).2
            refine lv_aload_n hxe hcd dX10_pours_87 rfl (lv_at hl 2 rfl) ?_
            refine gf_X10_16 S hW dX10_pours_88 ?_
            refine lv_iload hxe hcd dX10_pours_91 (lv_at hl 0 rfl) ?_
            refine lv_iconst (v := (nI 3)) hxe hcd dX10_pours_93 (by decide) ?_
            refine lv_aload_n hxe hcd dX10_pours_94 rfl (lv_at hl 2 rfl) ?_
            refine gf_X10_16 S hW dX10_pours_95 ?_
            refine lv_iload hxe hcd dX10_pours_98 (lv_at hl 0 rfl) ?_
            refine lv_iconst (v := (nI 2)) hxe hcd dX10_pours_100 (by decide) ?_
            refine r_calli0 (r_runS hZ S hW (As := [.int (nI t), .int (nI 2)]) (rest := [.ref (B 1), .int (nI 3), .int (nI t), .ref (B 1)]) (t_X10_of l hZ mds B (mE Z B (up1 (up1 (up1 (up1 ν 6 o2) 7 g2) 1 (pourN (ν 1) nt (ldV (flV (ν 1) q nf) n) k)) 1 (upd ((up1 (up1 (up1 ν 6 o2) 7 g2) 1 (pourN (ν 1) nt (ldV (flV (ν 1) q nf) n) k)) 1) 2 (((up1 (up1 (up1 ν 6 o2) 7 g2) 1 (pourN (ν 1) nt (ldV (flV (ν 1) q nf) n) k)) 1 2) + (nI 1))))) H.size (t := t) (w := 2)) k_X10_144 (hl.1) rfl rfl (Nat.le_of_ble_eq_true rfl) ⟨Nat.le_of_ble_eq_true rfl, Nat.le_of_ble_eq_true rfl⟩ ⟨Nat.le_of_ble_eq_true rfl, Nat.le_of_ble_eq_true rfl⟩ dX10_pours_101) hW (fun r101 H locs hp101 hW => ?_)
            have hp101 := hp101.symm
            subst hp101
            refine gm_ald S hW (i := 1) (k := (29 + 12 * t + 2)) (n := 1357) (by decide) (by decide) rfl (by omega) dX10_pours_104 ?_
            refine r_as (y := (nI (lv2 t))) (by simp only [up1_s]; rw [upd_o (by omega)]; exact (hV2 t ht).2.1) ?_
            refine n_iadd S (a := 3) (b := (lv2 t)) dX10_pours_105 ?_
            refine r_calli0 (r_runS hZ S hW (As := [.int (nI t), .int (nI (3 + (lv2 t)))]) (rest := [.ref (B 1)]) (t_X10_of l hZ mds B (mE Z B (up1 (up1 (up1 (up1 ν 6 o2) 7 g2) 1 (pourN (ν 1) nt (ldV (flV (ν 1) q nf) n) k)) 1 (upd ((up1 (up1 (up1 ν 6 o2) 7 g2) 1 (pourN (ν 1) nt (ldV (flV (ν 1) q nf) n) k)) 1) 2 (((up1 (up1 (up1 ν 6 o2) 7 g2) 1 (pourN (ν 1) nt (ldV (flV (ν 1) q nf) n) k)) 1 2) + (nI 1))))) H.size (t := t) (w := (3 + (lv2 t)))) k_X10_144 (hl.1) rfl rfl (Nat.le_of_ble_eq_true rfl) ⟨Nat.le_of_ble_eq_true rfl, Nat.le_of_ble_eq_true rfl⟩ ⟨Nat.le_of_ble_eq_true rfl, Nat.le_of_ble_eq_true rfl⟩ dX10_pours_106) hW (fun r106 H locs hp106 hW => ?_)
            have hp106 := hp106.symm
            subst hp106
            refine lv_iload hxe hcd dX10_pours_109 (lv_at hl 1 rfl) ?_
            refine gm_ast S hW (i := 1) (k := (29 + 12 * t + (3 + (lv2 t)))) (n := 1357) (by decide) (by decide) rfl (by omega) dX10_pours_111 (fun H locs hW => ?_)
            refine lv_aload_n hxe hcd dX10_pours_112 rfl (lv_at hl 2 rfl) ?_
            refine gf_X10_16 S hW dX10_pours_113 ?_
            refine lv_iload hxe hcd dX10_pours_116 (lv_at hl 0 rfl) ?_
            refine lv_iconst (v := (nI 2)) hxe hcd dX10_pours_118 (by decide) ?_
            refine r_calli0 (r_runS hZ S hW (As := [.int (nI t), .int (nI 2)]) (rest := [.ref (B 1)]) (t_X10_of l hZ mds B (mE Z B (up1 (up1 (up1 (up1 (up1 ν 6 o2) 7 g2) 1 (pourN (ν 1) nt (ldV (flV (ν 1) q nf) n) k)) 1 (upd ((up1 (up1 (up1 ν 6 o2) 7 g2) 1 (pourN (ν 1) nt (ldV (flV (ν 1) q nf) n) k)) 1) 2 (((up1 (up1 (up1 ν 6 o2) 7 g2) 1 (pourN (ν 1) nt (ldV (flV (ν 1) q nf) n) k)) 1 2) + (nI 1)))) 1 (upd ((up1 (up1 (up1 (up1 ν 6 o2) 7 g2) 1 (pourN (ν 1) nt (ldV (flV (ν 1) q nf) n) k)) 1 (upd ((up1 (up1 (up1 ν 6 o2) 7 g2) 1 (pourN (ν 1) nt (ldV (flV (ν 1) q nf) n) k)) 1) 2 (((up1 (up1 (up1 ν 6 o2) 7 g2) 1 (pourN (ν 1) nt (ldV (flV (ν 1) q nf) n) k)) 1 2) + (nI 1)))) 1) (29 + 12 * t + (3 + (lv2 t))) ((ldV (flV (ν 1) q nf) n) k)))) H.size (t := t) (w := 2)) k_X10_144 (hl.1) rfl rfl (Nat.le_of_ble_eq_true rfl) ⟨Nat.le_of_ble_eq_true rfl, Nat.le_of_ble_eq_true rfl⟩ ⟨Nat.le_of_ble_eq_true rfl, Nat.le_of_ble_eq_true rfl⟩ dX10_pours_119) hW (fun r119 H locs hp119 hW => ?_)
            have hp119 := hp119.symm
            subst hp119
            refine lv_dup2_11 hxe hcd dX10_pours_122 rfl rfl ?_
            refine gm_ald S hW (i := 1) (k := (29 + 12 * t + 2)) (n := 1357) (by decide) (by decide) rfl (by omega) dX10_pours_123 ?_
            refine r_as (y := (nI (lv2 t))) (by simp only [up1_s]; rw [upd_o (by omega), upd_o (by omega)]; exact (hV2 t ht).2.1) ?_
            refine lv_iconst (v := (nI 1)) hxe hcd dX10_pours_124 (by decide) ?_
            refine n_iadd S (a := (lv2 t)) (b := 1) dX10_pours_125 ?_
            refine gm_ast S hW (i := 1) (k := (29 + 12 * t + 2)) (n := 1357) (by decide) (by decide) rfl (by omega) dX10_pours_126 (fun H locs hW => ?_)
            refine lv_iinc (v := (nI ((pourC (ν 1) nt (ldV (flV (ν 1) q nf) n) k) + 1))) (lv' := [(2, .int (nI ((pourC (ν 1) nt (ldV (flV (ν 1) q nf) n) k) + 1))), (6, .int (nI t)), (5, .int ((ldV (flV (ν 1) q nf) n) k)), (0, .ref (B 0)), (1, .int (nI q)), (3, .int (nI n)), (4, .int (nI (k * 8)))]) hxe hcd dX10_pours_127 hl (k := 4) rfl (nI_add (pourC (ν 1) nt (ldV (flV (ν 1) q nf) n) k) 1) (by decide) rfl (fun ls hl => ?_)
            refine lv_iinc (v := (nI ((k * 8) + 8))) (lv' := [(4, .int (nI ((k * 8) + 8))), (2, .int (nI ((pourC (ν 1) nt (ldV (flV (ν 1) q nf) n) k) + 1))), (6, .int (nI t)), (5, .int ((ldV (flV (ν 1) q nf) n) k)), (0, .ref (B 0)), (1, .int (nI q)), (3, .int (nI n))]) hxe hcd dX10_pours_130 hl (k := 6) rfl (nI_add (k * 8) 8) (by decide) rfl (fun ls hl => ?_)
            refine lv_goto (tgt := 20) hxe hcd dX10_pours_133 (by decide) ?_
            have hl : lv_has ls 7 [(4, .int (nI ((k + 1) * 8))), (3, .int (nI n)), (2, .int (nI (pourC (ν 1) nt (ldV (flV (ν 1) q nf) n) (k + 1)))), (0, .ref (B 0)), (1, .int (nI q))] := by
              rw [show (k + 1) * 8 = k * 8 + 8 by omega, pourC_some hB]
              exact lv_sub hl [0, 6, 1, 4, 5] rfl
            exact ih20 (k + 1) (by omega) (by omega) _ _ _ (by simp only [up1_s, up1_2] at hW; rw [pourN, pourF_some hB (hV2 t ht).2.1 (by have := hV2 t ht; omega)]; exact hW) (lv_sub hl [3, 4, 2, 1, 0] rfl)
  exact loop20 (((n + 7) / 8) + 1) 0 (Nat.lt_succ_self _) (Nat.zero_le _) _ _ _ (by have e := up1_id (up1 (up1 ν 6 o2) 7 g2) 1; rw [up1_o (j := 1) (i := 7) (by decide), up1_o (j := 1) (i := 6) (by decide)] at e; rw [pourN, e]; exact hW) (lv_sub hl [3, 4, 2, 1, 0] rfl)
set_option maxHeartbeats 4000000 in
set_option maxRecDepth 100000 in
theorem t_X10_poursAll (l : Launch) {Z : ZT} (hZ : zOK Z) (B : Nat → Nat) (ν : MM) (sz : Nat) (ln : Nat → Nat) (hln : ∀ q, q < 4 → ν 1 (25 + q) = nI (ln q) ∧ ln q ≤ 160) (nn : Nat → Nat) (hnn : ∀ q, q < 4 → ν 1 (21 + q) = nI (nn q) ∧ nn q ≤ ln q) {nf : Nat} (hnf : ν 1 0 = nI nf) (hnf8 : nf ≤ 8) (ps : Nat → Nat) (hps : ∀ f, f < nf → ν 1 (13 + f) = nI (ps f) ∧ ps f ≤ 999 ∧ KP (ν 1 (5 + f)) (nI (ps f))) {nt : Nat} (hnt : ν 1 1 = nI nt) (hnt4 : nt ≤ 4) (cp lv : Nat → Nat) (hV : VT (ν 1) nt cp lv) (x : Int32) : XMi l yX10_poursAll cX10_poursAll 2 (some .int) 4 [.ref (B 0), .int x] Z mds B (mE Z B) ν sz (fun r u => (¬ IX x 4 ∧ r = nI 0 ∧ u = up1 ν 0 (upd (ν 0) 0 (nI 1))) ∨ (∃ q, q < 4 ∧ x = nI q ∧ nn q = 0 ∧ r = nI 0 ∧ u = up1 ν 0 (upd (ν 0) 0 (nI 2))) ∨ (∃ q, q < 4 ∧ x = nI q ∧ 0 < nn q ∧ r = nI (pourC (ν 1) nt (ldV (flV (ν 1) q nf) (ln q)) ((ln q + 7) / 8)) ∧ ∃ o2 g2 : Nat → Int32, u = up1 (up1 (up1 ν 6 o2) 7 g2) 1 (pourN (ν 1) nt (ldV (flV (ν 1) q nf) (ln q)) ((ln q + 7) / 8)))) := by
  refine r_met (E := (mE Z B ν)) (by decide +kernel) (Nat.le_of_ble_eq_true rfl) ?_
  intro p e s m below meth c ls S hr hlk hnm hsz hW hl
  have hxe := S.1
  have hcd := S.2.1
  subst hsz
  have hl : lv_has ls 2 [(0, .ref (B 0)), (1, .int x)] := hl
  refine lv_iload_n hxe hcd dX10_poursAll_0 rfl (lv_at hl 1 rfl) ?_
  refine r_calli0 (r_runS hZ S hW (As := [.int x]) (rest := []) (t_X10_isSong l hZ mds B (mE Z B ν) s.heap.size x) k_X10_105 (hl.1) rfl rfl (Nat.le_of_ble_eq_true rfl) ⟨Nat.le_of_ble_eq_true rfl, Nat.le_of_ble_eq_true rfl⟩ ⟨Nat.le_of_ble_eq_true rfl, Nat.le_of_ble_eq_true rfl⟩ dX10_poursAll_1) hW (fun r1 H locs hp1 hW => ?_)
  rcases hp1 with ⟨hp10, hp1⟩ | ⟨hp10, hp1⟩
  · subst hp10
    refine lv_if_ne (tgt := 13) hxe hcd dX10_poursAll_4 (by decide) (fun _ => ?_) (fun h => absurd h (by decide))
    obtain ⟨q, hq, rfl⟩ := hp1
    have hlq := hln q hq
    have hnq := hnn q hq
    refine lv_aload_n hxe hcd dX10_poursAll_13 rfl (lv_at hl 0 rfl) ?_
    refine gf_X10_16 S hW dX10_poursAll_14 ?_
    refine lv_bipush (v := (nI 21)) hxe hcd dX10_poursAll_17 (by decide) ?_
    refine lv_iload_n hxe hcd dX10_poursAll_19 rfl (lv_at hl 1 rfl) ?_
    refine n_iadd S (a := 21) (b := q) dX10_poursAll_20 ?_
    refine gm_ald S hW (i := 1) (k := (21 + q)) (n := 1357) (by decide) (by decide) rfl (by omega) dX10_poursAll_21 ?_
    refine r_as (y := (nI (nn q))) (hnq.1) ?_
    refine n_ifne S (a := (nn q)) (by omega) dX10_poursAll_22 (tgt := 33) (by decide) (fun c22 => ?_) (fun c22 => ?_)
    · refine lv_aload_n hxe hcd dX10_poursAll_33 rfl (lv_at hl 0 rfl) ?_
      refine lv_iload_n hxe hcd dX10_poursAll_34 rfl (lv_at hl 1 rfl) ?_
      refine r_calli (F := (mE Z B)) (r_runV hZ S hW (As := [.int (nI q)]) (rest := []) (t_X10_pours l hZ B ν H.size (q := q) (n := ln q) hq hlq.1 hlq.2 hnf hnf8 ps hps hnt hnt4 cp lv hV) k_X10_162 (r_recv hW (x := 0) (List.mem_range.mpr (by decide)) rfl rfl) (hl.1) rfl rfl (Nat.le_of_ble_eq_true rfl) ⟨Nat.le_of_ble_eq_true rfl, Nat.le_of_ble_eq_true rfl⟩ ⟨Nat.le_of_ble_eq_true rfl, Nat.le_of_ble_eq_true rfl⟩ dX10_poursAll_35) hW (fun r35 u35 H locs hp35 hW => ?_)
      obtain ⟨hr35, o35, g35, hm35⟩ := hp35
      have hm35 : u35 = up1 (up1 (up1 ν 6 o35) 7 g35) 1 (pourN (ν 1) nt (ldV (flV (ν 1) q nf) (ln q)) ((ln q + 7) / 8)) := hm35
      subst hm35
      subst hr35
      refine r_iret S hr hlk (F := (mE Z B)) (u := (up1 (up1 (up1 ν 6 o35) 7 g35) 1 (pourN (ν 1) nt (ldV (flV (ν 1) q nf) (ln q)) ((ln q + 7) / 8)))) hW ?_ dX10_poursAll_38
      first | exact Or.inl ⟨hp1, rfl, rfl⟩ | exact Or.inr (Or.inl ⟨q, hq, rfl, c22, rfl, rfl⟩) | exact Or.inr (Or.inr ⟨q, hq, rfl, by omega, rfl, o35, g35, rfl⟩)
    · refine lv_aload_n hxe hcd dX10_poursAll_25 rfl (lv_at hl 0 rfl) ?_
      refine lv_iconst (v := (nI 2)) hxe hcd dX10_poursAll_26 (by decide) ?_
      refine r_calli (F := (mE Z B)) (r_runV hZ S hW (As := [.int (nI 2)]) (rest := []) (t_X10_fail l hZ B ν H.size (nI 2)) k_X10_71 (r_recv hW (x := 0) (List.mem_range.mpr (by decide)) rfl rfl) (hl.1) rfl rfl (Nat.le_of_ble_eq_true rfl) ⟨Nat.le_of_ble_eq_true rfl, Nat.le_of_ble_eq_true rfl⟩ ⟨Nat.le_of_ble_eq_true rfl, Nat.le_of_ble_eq_true rfl⟩ dX10_poursAll_27) hW (fun r27 u27 H locs hp27 hW => ?_)
      obtain ⟨hp27, hp27m⟩ := hp27
      have hp27 := hp27.symm
      subst hp27
      have hp27m := hp27m.symm
      subst hp27m
      refine lv_goto (tgt := 38) hxe hcd dX10_poursAll_30 (by decide) ?_
      refine r_iret S hr hlk (F := (mE Z B)) (u := (up1 ν 0 (upd (ν 0) 0 (nI 2)))) hW ?_ dX10_poursAll_38
      first | exact Or.inl ⟨hp1, rfl, rfl⟩ | exact Or.inr (Or.inl ⟨q, hq, rfl, c22, rfl, rfl⟩) | exact Or.inr (Or.inr ⟨q, hq, rfl, by omega, rfl, o35, g35, rfl⟩)
  · subst hp10
    refine lv_if_ne (tgt := 13) hxe hcd dX10_poursAll_4 (by decide) (fun h => absurd h (by decide)) (fun _ => ?_)
    refine lv_aload_n hxe hcd dX10_poursAll_7 rfl (lv_at hl 0 rfl) ?_
    refine lv_iconst (v := (nI 1)) hxe hcd dX10_poursAll_8 (by decide) ?_
    refine r_calli (F := (mE Z B)) (r_runV hZ S hW (As := [.int (nI 1)]) (rest := []) (t_X10_fail l hZ B ν H.size (nI 1)) k_X10_71 (r_recv hW (x := 0) (List.mem_range.mpr (by decide)) rfl rfl) (hl.1) rfl rfl (Nat.le_of_ble_eq_true rfl) ⟨Nat.le_of_ble_eq_true rfl, Nat.le_of_ble_eq_true rfl⟩ ⟨Nat.le_of_ble_eq_true rfl, Nat.le_of_ble_eq_true rfl⟩ dX10_poursAll_9) hW (fun r9 u9 H locs hp9 hW => ?_)
    obtain ⟨hp9, hp9m⟩ := hp9
    have hp9 := hp9.symm
    subst hp9
    have hp9m := hp9m.symm
    subst hp9m
    refine r_iret S hr hlk (F := (mE Z B)) (u := (up1 ν 0 (upd (ν 0) 0 (nI 1)))) hW ?_ dX10_poursAll_12
    first | exact Or.inl ⟨hp1, rfl, rfl⟩ | exact Or.inr (Or.inl ⟨q, hq, rfl, c22, rfl, rfl⟩) | exact Or.inr (Or.inr ⟨q, hq, rfl, by omega, rfl, o35, g35, rfl⟩)
set_option maxHeartbeats 4000000 in
set_option maxRecDepth 100000 in
theorem t_X10_drains (l : Launch) {Z : ZT} (hZ : zOK Z) (B : Nat → Nat) (ν : MM) (sz : Nat) {nt : Nat} (hnt : ν 1 1 = nI nt) (hnt4 : nt ≤ 4) (cp lv : Nat → Nat) (hV : VT (ν 1) nt cp lv) (x y : Int32) : XMi l yX10_drains cX10_drains 5 (some .int) 2 [.ref (B 0), .int x, .int y] Z mds B (mE Z B) ν sz (fun r u => (¬ IX x nt ∧ r = nI 0 ∧ u = up1 ν 0 (upd (ν 0) 0 (nI 1))) ∨ (IX x nt ∧ ¬ (nI 1 ≤ y ∧ y ≤ nI 9) ∧ r = nI 0 ∧ u = up1 ν 0 (upd (ν 0) 0 (nI 2))) ∨ (∃ q j, q < nt ∧ x = nI q ∧ 1 ≤ j ∧ j ≤ 9 ∧ y = nI j ∧ lv q < j ∧ r = nI 0 ∧ u = up1 ν 0 (upd (ν 0) 0 (nI 3))) ∨ (∃ q j, q < nt ∧ x = nI q ∧ 1 ≤ j ∧ j ≤ 9 ∧ y = nI j ∧ j ≤ lv q ∧ r = maxR (fun i => ν 1 (29 + 12 * q + (3 + i))) j ∧ u = up1 ν 1 (drnV (ν 1) q (lv q) j))) := by
  refine r_met (E := (mE Z B ν)) (by decide +kernel) (Nat.le_of_ble_eq_true rfl) ?_
  intro p e s m below meth c ls S hr hlk hnm hsz hW hl
  have hxe := S.1
  have hcd := S.2.1
  subst hsz
  have hl : lv_has ls 5 [(0, .ref (B 0)), (1, .int x), (2, .int y)] := hl
  refine lv_aload_n hxe hcd dX10_drains_0 rfl (lv_at hl 0 rfl) ?_
  refine lv_iload_n hxe hcd dX10_drains_1 rfl (lv_at hl 1 rfl) ?_
  refine r_calli0 (r_runV hZ S hW (As := [.int x]) (rest := []) (t_X10_isTank l hZ B ν s.heap.size hnt hnt4 x) k_X10_150 (r_recv hW (x := 0) (List.mem_range.mpr (by decide)) rfl rfl) (hl.1) rfl rfl (Nat.le_of_ble_eq_true rfl) ⟨Nat.le_of_ble_eq_true rfl, Nat.le_of_ble_eq_true rfl⟩ ⟨Nat.le_of_ble_eq_true rfl, Nat.le_of_ble_eq_true rfl⟩ dX10_drains_2) hW (fun r2 H locs hp2 hW => ?_)
  rcases hp2 with ⟨hp20, hp2⟩ | ⟨hp20, hp2⟩
  · subst hp20
    refine lv_if_ne (tgt := 14) hxe hcd dX10_drains_5 (by decide) (fun _ => ?_) (fun h => absurd h (by decide))
    refine lv_iload_n hxe hcd dX10_drains_14 rfl (lv_at hl 2 rfl) ?_
    refine lv_iconst (v := (nI 1)) hxe hcd dX10_drains_15 (by decide) ?_
    refine lv_bipush (v := (nI 9)) hxe hcd dX10_drains_16 (by decide) ?_
    refine r_calli0 (r_runS hZ S hW (As := [.int y, .int (nI 1), .int (nI 9)]) (rest := []) (t_X10_isIn l hZ mds B (mE Z B ν) H.size y (nI 1) (nI 9)) k_X10_63 (hl.1) rfl rfl (Nat.le_of_ble_eq_true rfl) ⟨Nat.le_of_ble_eq_true rfl, Nat.le_of_ble_eq_true rfl⟩ ⟨Nat.le_of_ble_eq_true rfl, Nat.le_of_ble_eq_true rfl⟩ dX10_drains_18) hW (fun r18 H locs hp18 hW => ?_)
    rcases hp18 with ⟨hp180, hp18⟩ | ⟨hp180, hp18⟩
    · subst hp180
      refine lv_if_ne (tgt := 30) hxe hcd dX10_drains_21 (by decide) (fun _ => ?_) (fun h => absurd h (by decide))
      obtain ⟨q, hq, rfl⟩ := hp2
      obtain ⟨j, hj1, hj2, rfl⟩ := (I_rng2 (by decide) (by decide)).mp hp18
      have hvq := hV q hq
      refine lv_aload_n hxe hcd dX10_drains_30 rfl (lv_at hl 0 rfl) ?_
      refine gf_X10_16 S hW dX10_drains_31 ?_
      refine lv_iload_n hxe hcd dX10_drains_34 rfl (lv_at hl 1 rfl) ?_
      refine lv_iconst (v := (nI 2)) hxe hcd dX10_drains_35 (by decide) ?_
      refine r_calli0 (r_runS hZ S hW (As := [.int (nI q), .int (nI 2)]) (rest := [.ref (B 1)]) (t_X10_of l hZ mds B (mE Z B ν) H.size (t := q) (w := 2)) k_X10_144 (hl.1) rfl rfl (Nat.le_of_ble_eq_true rfl) ⟨Nat.le_of_ble_eq_true rfl, Nat.le_of_ble_eq_true rfl⟩ ⟨Nat.le_of_ble_eq_true rfl, Nat.le_of_ble_eq_true rfl⟩ dX10_drains_36) hW (fun r36 H locs hp36 hW => ?_)
      have hp36 := hp36.symm
      subst hp36
      refine gm_ald S hW (i := 1) (k := (29 + 12 * q + 2)) (n := 1357) (by decide) (by decide) rfl (by omega) dX10_drains_39 ?_
      refine r_as (y := (nI (lv q))) (hvq.2.1) ?_
      refine lv_iload_n hxe hcd dX10_drains_40 rfl (lv_at hl 2 rfl) ?_
      refine n_ge S (a := (lv q)) (b := j) (by omega) (by omega) dX10_drains_41 (tgt := 50) (by decide) (fun c41 => ?_) (fun c41 => ?_)
      · refine lv_iconst (v := (nI 0)) hxe hcd dX10_drains_50 (by decide) ?_
        refine lv_istore_n (lv' := [(3, .int (nI 0)), (0, .ref (B 0)), (1, .int (nI q)), (2, .int (nI j))]) hxe hcd dX10_drains_51 rfl hl (by decide) rfl (fun ls hl => ?_)
        refine lv_iconst (v := (nI 0)) hxe hcd dX10_drains_52 (by decide) ?_
        refine lv_istore (lv' := [(4, .int (nI 0)), (3, .int (nI 0)), (0, .ref (B 0)), (1, .int (nI q)), (2, .int (nI j))]) hxe hcd dX10_drains_53 hl (by decide) rfl (fun ls hl => ?_)
        have loop55 : ∀ (n_ : Nat) (i : Nat), j - i < n_ → (i ≤ j) → ∀ (H : Heap) (locs : List Loc) (ls : Array Slot), wX Z mds B (mE Z B ν) (fA mds B (mE Z B ν) s.heap.size) s H locs → lv_has ls 5 [(0, .ref (B 0)), (1, .int (nI q)), (2, .int (nI j)), (3, .int (maxR (fun i => ν 1 (29 + 12 * q + (3 + i))) i)), (4, .int (nI i))] → W p l e (rmD 2 0 0) s m ([.ref (B 0), .int (nI q), .int (nI j)] : List Value).toArray below meth c H locs 0 0 (MQ below (va_Qi (fun r u => (¬ IX (nI q) nt ∧ r = nI 0 ∧ u = up1 ν 0 (upd (ν 0) 0 (nI 1))) ∨ (IX (nI q) nt ∧ ¬ (nI 1 ≤ (nI j) ∧ (nI j) ≤ nI 9) ∧ r = nI 0 ∧ u = up1 ν 0 (upd (ν 0) 0 (nI 2))) ∨ (∃ q_z j_z, q_z < nt ∧ (nI q) = nI q_z ∧ 1 ≤ j_z ∧ j_z ≤ 9 ∧ (nI j) = nI j_z ∧ lv q_z < j_z ∧ r = nI 0 ∧ u = up1 ν 0 (upd (ν 0) 0 (nI 3))) ∨ (∃ q_z j_z, q_z < nt ∧ (nI q) = nI q_z ∧ 1 ≤ j_z ∧ j_z ≤ 9 ∧ (nI j) = nI j_z ∧ j_z ≤ lv q_z ∧ r = maxR (fun i => ν 1 (29 + 12 * q_z + (3 + i))) j_z ∧ u = up1 ν 1 (drnV (ν 1) q_z (lv q_z) j_z))) (fun u t => qB Z mds B ((mE Z B) u) (fA mds B (mE Z B ν) s.heap.size) t) (fA mds B (mE Z B ν) s.heap.size)) ([.ref (B 0), .int (nI q), .int (nI j)] : List Value).toArray s 0 0 (fA mds B (mE Z B ν) s.heap.size)) (F0 m 55 ls []) := by
          intro n_
          induction n_ with
          | zero => intro i hm; exact absurd hm (Nat.not_lt_zero _)
          | succ n_ ih55 =>
            intro i hm hi H locs ls hW hl
            refine lv_iload hxe hcd dX10_drains_55 (lv_at hl 4 rfl) ?_
            refine lv_iload_n hxe hcd dX10_drains_57 rfl (lv_at hl 2 rfl) ?_
            refine n_ge S (a := i) (b := j) (by omega) (by omega) dX10_drains_58 (tgt := 102) (by decide) (fun c58 => ?_) (fun c58 => ?_)
            · refine lv_iconst (v := (nI 0)) hxe hcd dX10_drains_102 (by decide) ?_
              refine lv_istore (lv' := [(4, .int (nI 0)), (0, .ref (B 0)), (1, .int (nI q)), (2, .int (nI j)), (3, .int (maxR (fun i => ν 1 (29 + 12 * q + (3 + i))) i))]) hxe hcd dX10_drains_103 hl (by decide) rfl (fun ls hl => ?_)
              have loop105 : ∀ (n_ : Nat) (i2 : Nat), 9 - i2 < n_ → (i2 ≤ 9) → ∀ (H : Heap) (locs : List Loc) (ls : Array Slot), wX Z mds B (mE Z B (up1 ν 1 (dnV (ν 1) (29 + 12 * q + 3) j i2))) (fA mds B (mE Z B ν) s.heap.size) s H locs → lv_has ls 5 [(0, .ref (B 0)), (1, .int (nI q)), (2, .int (nI j)), (3, .int (maxR (fun i => ν 1 (29 + 12 * q + (3 + i))) i)), (4, .int (nI i2))] → W p l e (rmD 2 0 0) s m ([.ref (B 0), .int (nI q), .int (nI j)] : List Value).toArray below meth c H locs 0 0 (MQ below (va_Qi (fun r u => (¬ IX (nI q) nt ∧ r = nI 0 ∧ u = up1 ν 0 (upd (ν 0) 0 (nI 1))) ∨ (IX (nI q) nt ∧ ¬ (nI 1 ≤ (nI j) ∧ (nI j) ≤ nI 9) ∧ r = nI 0 ∧ u = up1 ν 0 (upd (ν 0) 0 (nI 2))) ∨ (∃ q_z j_z, q_z < nt ∧ (nI q) = nI q_z ∧ 1 ≤ j_z ∧ j_z ≤ 9 ∧ (nI j) = nI j_z ∧ lv q_z < j_z ∧ r = nI 0 ∧ u = up1 ν 0 (upd (ν 0) 0 (nI 3))) ∨ (∃ q_z j_z, q_z < nt ∧ (nI q) = nI q_z ∧ 1 ≤ j_z ∧ j_z ≤ 9 ∧ (nI j) = nI j_z ∧ j_z ≤ lv q_z ∧ r = maxR (fun i => ν 1 (29 + 12 * q_z + (3 + i))) j_z ∧ u = up1 ν 1 (drnV (ν 1) q_z (lv q_z) j_z))) (fun u t => qB Z mds B ((mE Z B) u) (fA mds B (mE Z B ν) s.heap.size) t) (fA mds B (mE Z B ν) s.heap.size)) ([.ref (B 0), .int (nI q), .int (nI j)] : List Value).toArray s 0 0 (fA mds B (mE Z B ν) s.heap.size)) (F0 m 105 ls []) := by
                intro n_
                induction n_ with
                | zero => intro i2 hm; exact absurd hm (Nat.not_lt_zero _)
                | succ n_ ih105 =>
                  intro i2 hm hi2 H locs ls hW hl
                  refine lv_iload hxe hcd dX10_drains_105 (lv_at hl 4 rfl) ?_
                  refine lv_bipush (v := (nI 9)) hxe hcd dX10_drains_107 (by decide) ?_
                  refine n_ge S (a := i2) (b := 9) (by omega) (by omega) dX10_drains_109 (tgt := 159) (by decide) (fun c109 => ?_) (fun c109 => ?_)
                  · refine lv_aload_n hxe hcd dX10_drains_159 rfl (lv_at hl 0 rfl) ?_
                    refine gf_X10_16 S hW dX10_drains_160 ?_
                    refine lv_iload_n hxe hcd dX10_drains_163 rfl (lv_at hl 1 rfl) ?_
                    refine lv_iconst (v := (nI 2)) hxe hcd dX10_drains_164 (by decide) ?_
                    refine r_calli0 (r_runS hZ S hW (As := [.int (nI q), .int (nI 2)]) (rest := [.ref (B 1)]) (t_X10_of l hZ mds B (mE Z B (up1 ν 1 (dnV (ν 1) (29 + 12 * q + 3) j i2))) H.size (t := q) (w := 2)) k_X10_144 (hl.1) rfl rfl (Nat.le_of_ble_eq_true rfl) ⟨Nat.le_of_ble_eq_true rfl, Nat.le_of_ble_eq_true rfl⟩ ⟨Nat.le_of_ble_eq_true rfl, Nat.le_of_ble_eq_true rfl⟩ dX10_drains_165) hW (fun r165 H locs hp165 hW => ?_)
                    have hp165 := hp165.symm
                    subst hp165
                    refine lv_dup2_11 hxe hcd dX10_drains_168 rfl rfl ?_
                    refine gm_ald S hW (i := 1) (k := (29 + 12 * q + 2)) (n := 1357) (by decide) (by decide) rfl (by omega) dX10_drains_169 ?_
                    refine r_as (y := (nI (lv q))) (by simp only [up1_s]; rw [dnV, if_neg (by omega)]; exact hvq.2.1) ?_
                    refine lv_iload_n hxe hcd dX10_drains_170 rfl (lv_at hl 2 rfl) ?_
                    refine n_isub S (a := (lv q)) (b := j) (by omega) dX10_drains_171 ?_
                    refine gm_ast S hW (i := 1) (k := (29 + 12 * q + 2)) (n := 1357) (by decide) (by decide) rfl (by omega) dX10_drains_172 (fun H locs hW => ?_)
                    refine lv_aload_n hxe hcd dX10_drains_173 rfl (lv_at hl 0 rfl) ?_
                    refine gf_X10_16 S hW dX10_drains_174 ?_
                    refine lv_iconst (v := (nI 4)) hxe hcd dX10_drains_177 (by decide) ?_
                    refine lv_dup2_11 hxe hcd dX10_drains_178 rfl rfl ?_
                    refine gm_ald S hW (i := 1) (k := 4) (n := 1357) (by decide) (by decide) rfl (by omega) dX10_drains_179 ?_
                    refine lv_iload_n hxe hcd dX10_drains_180 rfl (lv_at hl 2 rfl) ?_
                    refine lv_iadd hxe hcd dX10_drains_181 ?_
                    refine gm_ast S hW (i := 1) (k := 4) (n := 1357) (by decide) (by decide) rfl (by omega) dX10_drains_182 (fun H locs hW => ?_)
                    refine lv_iload_n hxe hcd dX10_drains_183 rfl (lv_at hl 3 rfl) ?_
                    refine r_iret S hr hlk (F := (mE Z B)) (u := (up1 (up1 (up1 ν 1 (dnV (ν 1) (29 + 12 * q + 3) j i2)) 1 (upd ((up1 ν 1 (dnV (ν 1) (29 + 12 * q + 3) j i2)) 1) (29 + 12 * q + 2) (nI ((lv q) - j)))) 1 (upd ((up1 (up1 ν 1 (dnV (ν 1) (29 + 12 * q + 3) j i2)) 1 (upd ((up1 ν 1 (dnV (ν 1) (29 + 12 * q + 3) j i2)) 1) (29 + 12 * q + 2) (nI ((lv q) - j)))) 1) 4 (((up1 (up1 ν 1 (dnV (ν 1) (29 + 12 * q + 3) j i2)) 1 (upd ((up1 ν 1 (dnV (ν 1) (29 + 12 * q + 3) j i2)) 1) (29 + 12 * q + 2) (nI ((lv q) - j)))) 1 4) + (nI j))))) hW ?_ dX10_drains_184
                    refine Or.inr (Or.inr (Or.inr ⟨q, j, hq, rfl, hj1, hj2, rfl, by omega, ?_, ?_⟩))
                    · rw [show i = j by omega]
                    · simp only [up1_s, up1_2, drnV]
                      rw [show i2 = 9 by omega, upd_o (show 4 ≠ 29 + 12 * q + 2 by omega), dnV, if_neg (by omega)]
                  · refine lv_aload_n hxe hcd dX10_drains_112 rfl (lv_at hl 0 rfl) ?_
                    refine gf_X10_16 S hW dX10_drains_113 ?_
                    refine lv_iload_n hxe hcd dX10_drains_116 rfl (lv_at hl 1 rfl) ?_
                    refine lv_iconst (v := (nI 3)) hxe hcd dX10_drains_117 (by decide) ?_
                    refine lv_iload hxe hcd dX10_drains_118 (lv_at hl 4 rfl) ?_
                    refine n_iadd S (a := 3) (b := i2) dX10_drains_120 ?_
                    refine r_calli0 (r_runS hZ S hW (As := [.int (nI q), .int (nI (3 + i2))]) (rest := [.ref (B 1)]) (t_X10_of l hZ mds B (mE Z B (up1 ν 1 (dnV (ν 1) (29 + 12 * q + 3) j i2))) H.size (t := q) (w := (3 + i2))) k_X10_144 (hl.1) rfl rfl (Nat.le_of_ble_eq_true rfl) ⟨Nat.le_of_ble_eq_true rfl, Nat.le_of_ble_eq_true rfl⟩ ⟨Nat.le_of_ble_eq_true rfl, Nat.le_of_ble_eq_true rfl⟩ dX10_drains_121) hW (fun r121 H locs hp121 hW => ?_)
                    have hp121 := hp121.symm
                    subst hp121
                    refine lv_iload hxe hcd dX10_drains_124 (lv_at hl 4 rfl) ?_
                    refine lv_iload_n hxe hcd dX10_drains_126 rfl (lv_at hl 2 rfl) ?_
                    refine n_iadd S (a := i2) (b := j) dX10_drains_127 ?_
                    refine lv_bipush (v := (nI 9)) hxe hcd dX10_drains_128 (by decide) ?_
                    refine n_ge S (a := (i2 + j)) (b := 9) (by omega) (by omega) dX10_drains_130 (tgt := 151) (by decide) (fun c130 => ?_) (fun c130 => ?_)
                    · refine lv_iconst (v := (nI 0)) hxe hcd dX10_drains_151 (by decide) ?_
                      refine gm_ast S hW (i := 1) (k := (29 + 12 * q + (3 + i2))) (n := 1357) (by decide) (by decide) rfl (by omega) dX10_drains_152 (fun H locs hW => ?_)
                      refine lv_iinc (v := (nI (i2 + 1))) (lv' := [(4, .int (nI (i2 + 1))), (0, .ref (B 0)), (1, .int (nI q)), (2, .int (nI j)), (3, .int (maxR (fun i => ν 1 (29 + 12 * q + (3 + i))) i))]) hxe hcd dX10_drains_153 hl (k := 4) rfl (nI_add i2 1) (by decide) rfl (fun ls hl => ?_)
                      refine lv_goto (tgt := 105) hxe hcd dX10_drains_156 (by decide) ?_
                      exact ih105 (i2 + 1) (by omega) (by omega) _ _ _ (by simp only [up1_s, up1_2] at hW; rw [dnV_step0 _ (by omega) (by omega)] at hW; exact hW) (lv_sub hl [1, 2, 3, 4, 0] rfl)
                    · refine lv_aload_n hxe hcd dX10_drains_133 rfl (lv_at hl 0 rfl) ?_
                      refine gf_X10_16 S hW dX10_drains_134 ?_
                      refine lv_iload_n hxe hcd dX10_drains_137 rfl (lv_at hl 1 rfl) ?_
                      refine lv_iconst (v := (nI 3)) hxe hcd dX10_drains_138 (by decide) ?_
                      refine lv_iload hxe hcd dX10_drains_139 (lv_at hl 4 rfl) ?_
                      refine n_iadd S (a := 3) (b := i2) dX10_drains_141 ?_
                      refine lv_iload_n hxe hcd dX10_drains_142 rfl (lv_at hl 2 rfl) ?_
                      refine n_iadd S (a := (3 + i2)) (b := j) dX10_drains_143 ?_
                      refine r_calli0 (r_runS hZ S hW (As := [.int (nI q), .int (nI ((3 + i2) + j))]) (rest := [.ref (B 1), .int (nI (29 + 12 * q + (3 + i2))), .ref (B 1)]) (t_X10_of l hZ mds B (mE Z B (up1 ν 1 (dnV (ν 1) (29 + 12 * q + 3) j i2))) H.size (t := q) (w := ((3 + i2) + j))) k_X10_144 (hl.1) rfl rfl (Nat.le_of_ble_eq_true rfl) ⟨Nat.le_of_ble_eq_true rfl, Nat.le_of_ble_eq_true rfl⟩ ⟨Nat.le_of_ble_eq_true rfl, Nat.le_of_ble_eq_true rfl⟩ dX10_drains_144) hW (fun r144 H locs hp144 hW => ?_)
                      have hp144 := hp144.symm
                      subst hp144
                      refine gm_ald S hW (i := 1) (k := (29 + 12 * q + ((3 + i2) + j))) (n := 1357) (by decide) (by decide) rfl (by omega) dX10_drains_147 ?_
                      refine lv_goto (tgt := 152) hxe hcd dX10_drains_148 (by decide) ?_
                      refine gm_ast S hW (i := 1) (k := (29 + 12 * q + (3 + i2))) (n := 1357) (by decide) (by decide) rfl (by omega) dX10_drains_152 (fun H locs hW => ?_)
                      refine lv_iinc (v := (nI (i2 + 1))) (lv' := [(4, .int (nI (i2 + 1))), (0, .ref (B 0)), (1, .int (nI q)), (2, .int (nI j)), (3, .int (maxR (fun i => ν 1 (29 + 12 * q + (3 + i))) i))]) hxe hcd dX10_drains_153 hl (k := 4) rfl (nI_add i2 1) (by decide) rfl (fun ls hl => ?_)
                      refine lv_goto (tgt := 105) hxe hcd dX10_drains_156 (by decide) ?_
                      exact ih105 (i2 + 1) (by omega) (by omega) _ _ _ (by simp only [up1_s, up1_2] at hW; rw [dnV_step1 _ hj1 (by omega) (by omega) (by omega)] at hW; exact hW) (lv_sub hl [1, 2, 3, 4, 0] rfl)
              exact loop105 (9 + 1) 0 (Nat.lt_succ_self _) (Nat.zero_le _) _ _ _ (by rw [dnV_0, up1_id]; exact hW) (lv_sub hl [1, 2, 3, 4, 0] rfl)
            · refine lv_aload_n hxe hcd dX10_drains_61 rfl (lv_at hl 0 rfl) ?_
              refine gf_X10_16 S hW dX10_drains_62 ?_
              refine lv_iload_n hxe hcd dX10_drains_65 rfl (lv_at hl 1 rfl) ?_
              refine lv_iconst (v := (nI 3)) hxe hcd dX10_drains_66 (by decide) ?_
              refine lv_iload hxe hcd dX10_drains_67 (lv_at hl 4 rfl) ?_
              refine n_iadd S (a := 3) (b := i) dX10_drains_69 ?_
              refine r_calli0 (r_runS hZ S hW (As := [.int (nI q), .int (nI (3 + i))]) (rest := [.ref (B 1)]) (t_X10_of l hZ mds B (mE Z B ν) H.size (t := q) (w := (3 + i))) k_X10_144 (hl.1) rfl rfl (Nat.le_of_ble_eq_true rfl) ⟨Nat.le_of_ble_eq_true rfl, Nat.le_of_ble_eq_true rfl⟩ ⟨Nat.le_of_ble_eq_true rfl, Nat.le_of_ble_eq_true rfl⟩ dX10_drains_70) hW (fun r70 H locs hp70 hW => ?_)
              have hp70 := hp70.symm
              subst hp70
              refine gm_ald S hW (i := 1) (k := (29 + 12 * q + (3 + i))) (n := 1357) (by decide) (by decide) rfl (by omega) dX10_drains_73 ?_
              refine lv_iload_n hxe hcd dX10_drains_74 rfl (lv_at hl 3 rfl) ?_
              refine lv_icmp_le (tgt := 94) hxe hcd dX10_drains_75 (by decide) (fun c75 => ?_) (fun c75 => ?_)
              · refine lv_iload_n hxe hcd dX10_drains_94 rfl (lv_at hl 3 rfl) ?_
                refine lv_istore_n (lv' := [(3, .int (maxR (fun i => ν 1 (29 + 12 * q + (3 + i))) i)), (0, .ref (B 0)), (1, .int (nI q)), (2, .int (nI j)), (4, .int (nI i))]) hxe hcd dX10_drains_95 rfl hl (by decide) rfl (fun ls hl => ?_)
                refine lv_iinc (v := (nI (i + 1))) (lv' := [(4, .int (nI (i + 1))), (3, .int (maxR (fun i => ν 1 (29 + 12 * q + (3 + i))) i)), (0, .ref (B 0)), (1, .int (nI q)), (2, .int (nI j))]) hxe hcd dX10_drains_96 hl (k := 4) rfl (nI_add i 1) (by decide) rfl (fun ls hl => ?_)
                refine lv_goto (tgt := 55) hxe hcd dX10_drains_99 (by decide) ?_
                have hl : lv_has ls 5 [(4, .int (nI (i + 1))), (3, .int (maxR (fun i => ν 1 (29 + 12 * q + (3 + i))) (i + 1))), (0, .ref (B 0)), (1, .int (nI q)), (2, .int (nI j))] := by
                  rw [maxR, imax, if_neg (I_nlt.mpr c75)]
                  exact lv_sub hl [0, 1, 2, 3, 4] rfl
                exact ih55 (i + 1) (by omega) (by omega) _ _ _ hW (lv_sub hl [2, 3, 4, 1, 0] rfl)
              · refine lv_aload_n hxe hcd dX10_drains_78 rfl (lv_at hl 0 rfl) ?_
                refine gf_X10_16 S hW dX10_drains_79 ?_
                refine lv_iload_n hxe hcd dX10_drains_82 rfl (lv_at hl 1 rfl) ?_
                refine lv_iconst (v := (nI 3)) hxe hcd dX10_drains_83 (by decide) ?_
                refine lv_iload hxe hcd dX10_drains_84 (lv_at hl 4 rfl) ?_
                refine n_iadd S (a := 3) (b := i) dX10_drains_86 ?_
                refine r_calli0 (r_runS hZ S hW (As := [.int (nI q), .int (nI (3 + i))]) (rest := [.ref (B 1)]) (t_X10_of l hZ mds B (mE Z B ν) H.size (t := q) (w := (3 + i))) k_X10_144 (hl.1) rfl rfl (Nat.le_of_ble_eq_true rfl) ⟨Nat.le_of_ble_eq_true rfl, Nat.le_of_ble_eq_true rfl⟩ ⟨Nat.le_of_ble_eq_true rfl, Nat.le_of_ble_eq_true rfl⟩ dX10_drains_87) hW (fun r87 H locs hp87 hW => ?_)
                have hp87 := hp87.symm
                subst hp87
                refine gm_ald S hW (i := 1) (k := (29 + 12 * q + (3 + i))) (n := 1357) (by decide) (by decide) rfl (by omega) dX10_drains_90 ?_
                refine lv_goto (tgt := 95) hxe hcd dX10_drains_91 (by decide) ?_
                refine lv_istore_n (lv' := [(3, .int (ν 1 (29 + 12 * q + (3 + i)))), (0, .ref (B 0)), (1, .int (nI q)), (2, .int (nI j)), (4, .int (nI i))]) hxe hcd dX10_drains_95 rfl hl (by decide) rfl (fun ls hl => ?_)
                refine lv_iinc (v := (nI (i + 1))) (lv' := [(4, .int (nI (i + 1))), (3, .int (ν 1 (29 + 12 * q + (3 + i)))), (0, .ref (B 0)), (1, .int (nI q)), (2, .int (nI j))]) hxe hcd dX10_drains_96 hl (k := 4) rfl (nI_add i 1) (by decide) rfl (fun ls hl => ?_)
                refine lv_goto (tgt := 55) hxe hcd dX10_drains_99 (by decide) ?_
                have hl : lv_has ls 5 [(4, .int (nI (i + 1))), (3, .int (maxR (fun i => ν 1 (29 + 12 * q + (3 + i))) (i + 1))), (0, .ref (B 0)), (1, .int (nI q)), (2, .int (nI j))] := by
                  rw [maxR, imax, if_pos (I_nle.mp c75)]
                  exact lv_sub hl [0, 1, 2, 3, 4] rfl
                exact ih55 (i + 1) (by omega) (by omega) _ _ _ hW (lv_sub hl [2, 3, 4, 1, 0] rfl)
        exact loop55 (j + 1) 0 (Nat.lt_succ_self _) (Nat.zero_le _) _ _ _ hW (lv_sub hl [2, 3, 4, 1, 0] rfl)
      · refine lv_aload_n hxe hcd dX10_drains_44 rfl (lv_at hl 0 rfl) ?_
        refine lv_iconst (v := (nI 3)) hxe hcd dX10_drains_45 (by decide) ?_
        refine r_calli (F := (mE Z B)) (r_runV hZ S hW (As := [.int (nI 3)]) (rest := []) (t_X10_fail l hZ B ν H.size (nI 3)) k_X10_71 (r_recv hW (x := 0) (List.mem_range.mpr (by decide)) rfl rfl) (hl.1) rfl rfl (Nat.le_of_ble_eq_true rfl) ⟨Nat.le_of_ble_eq_true rfl, Nat.le_of_ble_eq_true rfl⟩ ⟨Nat.le_of_ble_eq_true rfl, Nat.le_of_ble_eq_true rfl⟩ dX10_drains_46) hW (fun r46 u46 H locs hp46 hW => ?_)
        obtain ⟨hp46, hp46m⟩ := hp46
        have hp46 := hp46.symm
        subst hp46
        have hp46m := hp46m.symm
        subst hp46m
        refine r_iret S hr hlk (F := (mE Z B)) (u := (up1 ν 0 (upd (ν 0) 0 (nI 3)))) hW ?_ dX10_drains_49
        exact Or.inr (Or.inr (Or.inl ⟨q, j, hq, rfl, hj1, hj2, rfl, by omega, rfl, rfl⟩))
    · subst hp180
      refine lv_if_ne (tgt := 30) hxe hcd dX10_drains_21 (by decide) (fun h => absurd h (by decide)) (fun _ => ?_)
      refine lv_aload_n hxe hcd dX10_drains_24 rfl (lv_at hl 0 rfl) ?_
      refine lv_iconst (v := (nI 2)) hxe hcd dX10_drains_25 (by decide) ?_
      refine r_calli (F := (mE Z B)) (r_runV hZ S hW (As := [.int (nI 2)]) (rest := []) (t_X10_fail l hZ B ν H.size (nI 2)) k_X10_71 (r_recv hW (x := 0) (List.mem_range.mpr (by decide)) rfl rfl) (hl.1) rfl rfl (Nat.le_of_ble_eq_true rfl) ⟨Nat.le_of_ble_eq_true rfl, Nat.le_of_ble_eq_true rfl⟩ ⟨Nat.le_of_ble_eq_true rfl, Nat.le_of_ble_eq_true rfl⟩ dX10_drains_26) hW (fun r26 u26 H locs hp26 hW => ?_)
      obtain ⟨hp26, hp26m⟩ := hp26
      have hp26 := hp26.symm
      subst hp26
      have hp26m := hp26m.symm
      subst hp26m
      refine r_iret S hr hlk (F := (mE Z B)) (u := (up1 ν 0 (upd (ν 0) 0 (nI 2)))) hW ?_ dX10_drains_29
      exact Or.inr (Or.inl ⟨hp2, hp18, rfl, rfl⟩)
  · subst hp20
    refine lv_if_ne (tgt := 14) hxe hcd dX10_drains_5 (by decide) (fun h => absurd h (by decide)) (fun _ => ?_)
    refine lv_aload_n hxe hcd dX10_drains_8 rfl (lv_at hl 0 rfl) ?_
    refine lv_iconst (v := (nI 1)) hxe hcd dX10_drains_9 (by decide) ?_
    refine r_calli (F := (mE Z B)) (r_runV hZ S hW (As := [.int (nI 1)]) (rest := []) (t_X10_fail l hZ B ν H.size (nI 1)) k_X10_71 (r_recv hW (x := 0) (List.mem_range.mpr (by decide)) rfl rfl) (hl.1) rfl rfl (Nat.le_of_ble_eq_true rfl) ⟨Nat.le_of_ble_eq_true rfl, Nat.le_of_ble_eq_true rfl⟩ ⟨Nat.le_of_ble_eq_true rfl, Nat.le_of_ble_eq_true rfl⟩ dX10_drains_10) hW (fun r10 u10 H locs hp10 hW => ?_)
    obtain ⟨hp10, hp10m⟩ := hp10
    have hp10 := hp10.symm
    subst hp10
    have hp10m := hp10m.symm
    subst hp10m
    refine r_iret S hr hlk (F := (mE Z B)) (u := (up1 ν 0 (upd (ν 0) 0 (nI 1)))) hW ?_ dX10_drains_13
    exact Or.inl ⟨hp2, rfl, rfl⟩
set_option maxHeartbeats 4000000 in
set_option maxRecDepth 100000 in
theorem t_X10_tellsTank (l : Launch) {Z : ZT} (hZ : zOK Z) (B : Nat → Nat) (ν : MM) (sz : Nat) {nt : Nat} (hnt : ν 1 1 = nI nt) (hnt4 : nt ≤ 4) {w : Nat} (hw : w < 12) (x : Int32) : XMi l yX10_tellsTank cX10_tellsTank 3 (some .int) 2 [.ref (B 0), .int x, .int (nI w)] Z mds B (mE Z B) ν sz (fun r u => (∃ q, q < nt ∧ x = nI q ∧ r = ν 1 (29 + 12 * q + w) ∧ u = up1 ν 0 (upd (ν 0) 0 (nI 0))) ∨ (¬ IX x nt ∧ r = nI 0 ∧ u = up1 ν 0 (upd (ν 0) 0 (nI 1)))) := by
  refine r_met (E := (mE Z B ν)) (by decide +kernel) (Nat.le_of_ble_eq_true rfl) ?_
  intro p e s m below meth c ls S hr hlk hnm hsz hW hl
  have hxe := S.1
  have hcd := S.2.1
  subst hsz
  have hl : lv_has ls 3 [(0, .ref (B 0)), (1, .int x), (2, .int (nI w))] := hl
  refine lv_aload_n hxe hcd dX10_tellsTank_0 rfl (lv_at hl 0 rfl) ?_
  refine lv_aload_n hxe hcd dX10_tellsTank_1 rfl (lv_at hl 0 rfl) ?_
  refine lv_iload_n hxe hcd dX10_tellsTank_2 rfl (lv_at hl 1 rfl) ?_
  refine r_calli0 (r_runV hZ S hW (As := [.int x]) (rest := [.ref (B 0)]) (t_X10_isTank l hZ B ν s.heap.size hnt hnt4 x) k_X10_150 (r_recv hW (x := 0) (List.mem_range.mpr (by decide)) rfl rfl) (hl.1) rfl rfl (Nat.le_of_ble_eq_true rfl) ⟨Nat.le_of_ble_eq_true rfl, Nat.le_of_ble_eq_true rfl⟩ ⟨Nat.le_of_ble_eq_true rfl, Nat.le_of_ble_eq_true rfl⟩ dX10_tellsTank_3) hW (fun r3 H locs hp3 hW => ?_)
  rcases hp3 with ⟨hp30, hp3⟩ | ⟨hp30, hp3⟩
  · subst hp30
    refine lv_if_eq (tgt := 13) hxe hcd dX10_tellsTank_6 (by decide) (fun h => absurd h (by decide)) (fun _ => ?_)
    refine lv_iconst (v := (nI 0)) hxe hcd dX10_tellsTank_9 (by decide) ?_
    refine lv_goto (tgt := 14) hxe hcd dX10_tellsTank_10 (by decide) ?_
    refine gp_X10_53 S hW dX10_tellsTank_14 (fun H locs hW => ?_)
    refine lv_aload_n hxe hcd dX10_tellsTank_17 rfl (lv_at hl 0 rfl) ?_
    refine gf_X10_53 S hW dX10_tellsTank_18 ?_
    refine r_as (y := (nI 0)) (by rw [up1_s, upd_s]) ?_
    refine lv_if_ne (tgt := 37) hxe hcd dX10_tellsTank_21 (by decide) (fun h => absurd h (by decide)) (fun _ => ?_)
    obtain ⟨q, hq, rfl⟩ := hp3
    refine lv_aload_n hxe hcd dX10_tellsTank_24 rfl (lv_at hl 0 rfl) ?_
    refine gf_X10_16 S hW dX10_tellsTank_25 ?_
    refine lv_iload_n hxe hcd dX10_tellsTank_28 rfl (lv_at hl 1 rfl) ?_
    refine lv_iload_n hxe hcd dX10_tellsTank_29 rfl (lv_at hl 2 rfl) ?_
    refine r_calli0 (r_runS hZ S hW (As := [.int (nI q), .int (nI w)]) (rest := [.ref (B 1)]) (t_X10_of l hZ mds B (mE Z B (up1 ν 0 (upd (ν 0) 0 (nI 0)))) H.size (t := q) (w := w)) k_X10_144 (hl.1) rfl rfl (Nat.le_of_ble_eq_true rfl) ⟨Nat.le_of_ble_eq_true rfl, Nat.le_of_ble_eq_true rfl⟩ ⟨Nat.le_of_ble_eq_true rfl, Nat.le_of_ble_eq_true rfl⟩ dX10_tellsTank_30) hW (fun r30 H locs hp30 hW => ?_)
    have hp30 := hp30.symm
    subst hp30
    refine gm_ald S hW (i := 1) (k := (29 + 12 * q + w)) (n := 1357) (by decide) (by decide) rfl (by omega) dX10_tellsTank_33 ?_
    refine lv_goto (tgt := 38) hxe hcd dX10_tellsTank_34 (by decide) ?_
    refine r_iret S hr hlk (F := (mE Z B)) (u := (up1 ν 0 (upd (ν 0) 0 (nI 0)))) hW ?_ dX10_tellsTank_38
    exact Or.inl ⟨q, hq, rfl, rfl, rfl⟩
  · subst hp30
    refine lv_if_eq (tgt := 13) hxe hcd dX10_tellsTank_6 (by decide) (fun _ => ?_) (fun h => absurd (by decide) h)
    refine lv_iconst (v := (nI 1)) hxe hcd dX10_tellsTank_13 (by decide) ?_
    refine gp_X10_53 S hW dX10_tellsTank_14 (fun H locs hW => ?_)
    refine lv_aload_n hxe hcd dX10_tellsTank_17 rfl (lv_at hl 0 rfl) ?_
    refine gf_X10_53 S hW dX10_tellsTank_18 ?_
    refine r_as (y := (nI 1)) (by rw [up1_s, upd_s]) ?_
    refine lv_if_ne (tgt := 37) hxe hcd dX10_tellsTank_21 (by decide) (fun _ => ?_) (fun h => absurd h (by decide))
    refine lv_iconst (v := (nI 0)) hxe hcd dX10_tellsTank_37 (by decide) ?_
    refine r_iret S hr hlk (F := (mE Z B)) (u := (up1 ν 0 (upd (ν 0) 0 (nI 1)))) hW ?_ dX10_tellsTank_38
    exact Or.inr ⟨hp3, rfl, rfl⟩
