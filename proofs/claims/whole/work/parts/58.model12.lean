set_option maxHeartbeats 4000000 in
set_option maxRecDepth 100000 in
theorem t_X10_does (l : Launch) {Z : ZT} (hZ : zOK Z) (B : Nat → Nat) (ν : MM) (sz : Nat) {w a1 a2 a3 a4 : Nat} (hw : w < 12) (ha1 : a1 < 1000) (ha2 : a2 < 1000) (ha3 : a3 < 1000) (ha4 : a4 < 1000) (hVG : VG (ν 1)) (hwd : ∀ j, j < 63 → ν 11 j = nI (WD j)) (hwa : ∀ j, j < 13 → ν 12 j = nI (WA j)) : XMi l yX10_does cX10_does 6 (some .int) 5 [.ref (B 0), .int (nI w), .int (nI a1), .int (nI a2), .int (nI a3), .int (nI a4)] Z mds B (mE Z B) ν sz (fun _ u => (∃ o2 g2 v2 : Nat → Int32, exV (ν 1) w a1 a2 a3 a4 = some v2 ∧ u = mE6 ν o2 g2 v2) ∨ (exV (ν 1) w a1 a2 a3 a4 = none ∧ ∃ k : Nat, 1 ≤ k ∧ k ≤ 3 ∧ u = up1 ν 0 (upd (ν 0) 0 (nI k)))) := by
  refine r_met (E := (mE Z B ν)) (by decide +kernel) (Nat.le_of_ble_eq_true rfl) ?_
  intro p e s m below meth c ls S hr hlk hnm hsz hW hl
  have hxe := S.1
  have hcd := S.2.1
  subst hsz
  have hl : lv_has ls 6 [(0, .ref (B 0)), (1, .int (nI w)), (2, .int (nI a1)), (3, .int (nI a2)), (4, .int (nI a3)), (5, .int (nI a4))] := hl
  obtain ⟨⟨hnf, hnf8⟩, ⟨hnt, hnt4⟩, hln, hnn, hnl, hsm, hps, hV, hcp1, htu, hfr, hlz, hrb⟩ := hVG
  rcases (show w = 0 ∨ w = 1 ∨ w = 2 ∨ w = 3 ∨ w = 4 ∨ w = 5 ∨ w = 6 ∨ w = 7 ∨ w = 8 ∨ w = 9 ∨ w = 10 ∨ w = 11 by omega) with rfl | rfl | rfl | rfl | rfl | rfl | rfl | rfl | rfl | rfl | rfl | rfl
  · refine lv_iload_n hxe hcd dX10_does_0 rfl (lv_at hl 1 rfl) ?_
    refine lv_tableIn (tgt := 60) hxe hcd dX10_does_1 (by decide) (by decide) (by first | rfl | decide) (by decide) ?_
    refine lv_aload_n hxe hcd dX10_does_60 rfl (lv_at hl 0 rfl) ?_
    refine lv_aload_n hxe hcd dX10_does_61 rfl (lv_at hl 0 rfl) ?_
    refine gf_X10_47 S hW dX10_does_62 ?_
    refine lv_aload_n hxe hcd dX10_does_65 rfl (lv_at hl 0 rfl) ?_
    refine gf_X10_50 S hW dX10_does_66 ?_
    refine lv_iload_n hxe hcd dX10_does_69 rfl (lv_at hl 1 rfl) ?_
    refine gm_ald S hW (i := 12) (k := 0) (n := 13) (by decide) (by decide) rfl (by omega) dX10_does_70 ?_
    refine r_as (y := (nI 0)) ((hwa 0 (by decide))) ?_
    refine gm_ald S hW (i := 11) (k := 0) (n := 63) (by decide) (by decide) rfl (by omega) dX10_does_71 ?_
    refine r_as (y := (nI 103)) ((hwd 0 (by decide))) ?_
    refine lv_iload_n hxe hcd dX10_does_72 rfl (lv_at hl 2 rfl) ?_
    refine r_calli (F := (mE Z B)) (r_runV hZ S hW (As := [.int (nI 103), .int (nI a1)]) (rest := []) (t_X10_adds l hZ B ν s.heap.size hnf hnf8 (nI 103) (nI a1)) k_X10_82 (r_recv hW (x := 0) (List.mem_range.mpr (by decide)) rfl rfl) (hl.1) rfl rfl (Nat.le_of_ble_eq_true rfl) ⟨Nat.le_of_ble_eq_true rfl, Nat.le_of_ble_eq_true rfl⟩ ⟨Nat.le_of_ble_eq_true rfl, Nat.le_of_ble_eq_true rfl⟩ dX10_does_73) hW (fun r73 u73 H locs hp73 hW => ?_)
    rcases hp73 with ⟨h1, rfl, rfl⟩ | ⟨h1, h2, rfl, rfl⟩ | ⟨h1, h2, rfl, rfl⟩
    · refine r_iret S hr hlk (F := (mE Z B)) (u := (up1 ν 0 (upd (ν 0) 0 (nI 1)))) hW ?_ dX10_does_76
      refine Or.inr ⟨?_, 1, by decide, by decide, rfl⟩
      rw [exV, if_pos (by decide), if_neg (fun z => h1 z.1)]
    · refine r_iret S hr hlk (F := (mE Z B)) (u := (up1 ν 0 (upd (ν 0) 0 (nI 2)))) hW ?_ dX10_does_76
      refine Or.inr ⟨?_, 2, by decide, by decide, rfl⟩
      rw [exV, if_pos (by decide), if_neg (fun z => by have := z.2; omega)]
    · refine r_iret S hr hlk (F := (mE Z B)) (u := (up1 ν 1 (insV (ν 1) (nfV (ν 1)) (nfV (ν 1)) (nI 103) (nI a1)))) hW ?_ dX10_does_76
      refine Or.inl ⟨_, _, _, ?_, mE6_i _ _⟩
      rw [exV, if_pos (by decide), if_pos (show KP (nI (WD (WA 0))) (nI a1) ∧ nfV (ν 1) < 8 from ⟨h1, h2⟩)]
      rfl
  · refine lv_iload_n hxe hcd dX10_does_0 rfl (lv_at hl 1 rfl) ?_
    refine lv_tableIn (tgt := 60) hxe hcd dX10_does_1 (by decide) (by decide) (by first | rfl | decide) (by decide) ?_
    refine lv_aload_n hxe hcd dX10_does_60 rfl (lv_at hl 0 rfl) ?_
    refine lv_aload_n hxe hcd dX10_does_61 rfl (lv_at hl 0 rfl) ?_
    refine gf_X10_47 S hW dX10_does_62 ?_
    refine lv_aload_n hxe hcd dX10_does_65 rfl (lv_at hl 0 rfl) ?_
    refine gf_X10_50 S hW dX10_does_66 ?_
    refine lv_iload_n hxe hcd dX10_does_69 rfl (lv_at hl 1 rfl) ?_
    refine gm_ald S hW (i := 12) (k := 1) (n := 13) (by decide) (by decide) rfl (by omega) dX10_does_70 ?_
    refine r_as (y := (nI 5)) ((hwa 1 (by decide))) ?_
    refine gm_ald S hW (i := 11) (k := 5) (n := 63) (by decide) (by decide) rfl (by omega) dX10_does_71 ?_
    refine r_as (y := (nI 100)) ((hwd 5 (by decide))) ?_
    refine lv_iload_n hxe hcd dX10_does_72 rfl (lv_at hl 2 rfl) ?_
    refine r_calli (F := (mE Z B)) (r_runV hZ S hW (As := [.int (nI 100), .int (nI a1)]) (rest := []) (t_X10_adds l hZ B ν s.heap.size hnf hnf8 (nI 100) (nI a1)) k_X10_82 (r_recv hW (x := 0) (List.mem_range.mpr (by decide)) rfl rfl) (hl.1) rfl rfl (Nat.le_of_ble_eq_true rfl) ⟨Nat.le_of_ble_eq_true rfl, Nat.le_of_ble_eq_true rfl⟩ ⟨Nat.le_of_ble_eq_true rfl, Nat.le_of_ble_eq_true rfl⟩ dX10_does_73) hW (fun r73 u73 H locs hp73 hW => ?_)
    rcases hp73 with ⟨h1, rfl, rfl⟩ | ⟨h1, h2, rfl, rfl⟩ | ⟨h1, h2, rfl, rfl⟩
    · refine r_iret S hr hlk (F := (mE Z B)) (u := (up1 ν 0 (upd (ν 0) 0 (nI 1)))) hW ?_ dX10_does_76
      refine Or.inr ⟨?_, 1, by decide, by decide, rfl⟩
      rw [exV, if_pos (by decide), if_neg (fun z => h1 z.1)]
    · refine r_iret S hr hlk (F := (mE Z B)) (u := (up1 ν 0 (upd (ν 0) 0 (nI 2)))) hW ?_ dX10_does_76
      refine Or.inr ⟨?_, 2, by decide, by decide, rfl⟩
      rw [exV, if_pos (by decide), if_neg (fun z => by have := z.2; omega)]
    · refine r_iret S hr hlk (F := (mE Z B)) (u := (up1 ν 1 (insV (ν 1) (nfV (ν 1)) (nfV (ν 1)) (nI 100) (nI a1)))) hW ?_ dX10_does_76
      refine Or.inl ⟨_, _, _, ?_, mE6_i _ _⟩
      rw [exV, if_pos (by decide), if_pos (show KP (nI (WD (WA 1))) (nI a1) ∧ nfV (ν 1) < 8 from ⟨h1, h2⟩)]
      rfl
  · refine lv_iload_n hxe hcd dX10_does_0 rfl (lv_at hl 1 rfl) ?_
    refine lv_tableIn (tgt := 60) hxe hcd dX10_does_1 (by decide) (by decide) (by first | rfl | decide) (by decide) ?_
    refine lv_aload_n hxe hcd dX10_does_60 rfl (lv_at hl 0 rfl) ?_
    refine lv_aload_n hxe hcd dX10_does_61 rfl (lv_at hl 0 rfl) ?_
    refine gf_X10_47 S hW dX10_does_62 ?_
    refine lv_aload_n hxe hcd dX10_does_65 rfl (lv_at hl 0 rfl) ?_
    refine gf_X10_50 S hW dX10_does_66 ?_
    refine lv_iload_n hxe hcd dX10_does_69 rfl (lv_at hl 1 rfl) ?_
    refine gm_ald S hW (i := 12) (k := 2) (n := 13) (by decide) (by decide) rfl (by omega) dX10_does_70 ?_
    refine r_as (y := (nI 11)) ((hwa 2 (by decide))) ?_
    refine gm_ald S hW (i := 11) (k := 11) (n := 63) (by decide) (by decide) rfl (by omega) dX10_does_71 ?_
    refine r_as (y := (nI 109)) ((hwd 11 (by decide))) ?_
    refine lv_iload_n hxe hcd dX10_does_72 rfl (lv_at hl 2 rfl) ?_
    refine r_calli (F := (mE Z B)) (r_runV hZ S hW (As := [.int (nI 109), .int (nI a1)]) (rest := []) (t_X10_adds l hZ B ν s.heap.size hnf hnf8 (nI 109) (nI a1)) k_X10_82 (r_recv hW (x := 0) (List.mem_range.mpr (by decide)) rfl rfl) (hl.1) rfl rfl (Nat.le_of_ble_eq_true rfl) ⟨Nat.le_of_ble_eq_true rfl, Nat.le_of_ble_eq_true rfl⟩ ⟨Nat.le_of_ble_eq_true rfl, Nat.le_of_ble_eq_true rfl⟩ dX10_does_73) hW (fun r73 u73 H locs hp73 hW => ?_)
    rcases hp73 with ⟨h1, rfl, rfl⟩ | ⟨h1, h2, rfl, rfl⟩ | ⟨h1, h2, rfl, rfl⟩
    · refine r_iret S hr hlk (F := (mE Z B)) (u := (up1 ν 0 (upd (ν 0) 0 (nI 1)))) hW ?_ dX10_does_76
      refine Or.inr ⟨?_, 1, by decide, by decide, rfl⟩
      rw [exV, if_pos (by decide), if_neg (fun z => h1 z.1)]
    · refine r_iret S hr hlk (F := (mE Z B)) (u := (up1 ν 0 (upd (ν 0) 0 (nI 2)))) hW ?_ dX10_does_76
      refine Or.inr ⟨?_, 2, by decide, by decide, rfl⟩
      rw [exV, if_pos (by decide), if_neg (fun z => by have := z.2; omega)]
    · refine r_iret S hr hlk (F := (mE Z B)) (u := (up1 ν 1 (insV (ν 1) (nfV (ν 1)) (nfV (ν 1)) (nI 109) (nI a1)))) hW ?_ dX10_does_76
      refine Or.inl ⟨_, _, _, ?_, mE6_i _ _⟩
      rw [exV, if_pos (by decide), if_pos (show KP (nI (WD (WA 2))) (nI a1) ∧ nfV (ν 1) < 8 from ⟨h1, h2⟩)]
      rfl
  · refine lv_iload_n hxe hcd dX10_does_0 rfl (lv_at hl 1 rfl) ?_
    refine lv_tableIn (tgt := 60) hxe hcd dX10_does_1 (by decide) (by decide) (by first | rfl | decide) (by decide) ?_
    refine lv_aload_n hxe hcd dX10_does_60 rfl (lv_at hl 0 rfl) ?_
    refine lv_aload_n hxe hcd dX10_does_61 rfl (lv_at hl 0 rfl) ?_
    refine gf_X10_47 S hW dX10_does_62 ?_
    refine lv_aload_n hxe hcd dX10_does_65 rfl (lv_at hl 0 rfl) ?_
    refine gf_X10_50 S hW dX10_does_66 ?_
    refine lv_iload_n hxe hcd dX10_does_69 rfl (lv_at hl 1 rfl) ?_
    refine gm_ald S hW (i := 12) (k := 3) (n := 13) (by decide) (by decide) rfl (by omega) dX10_does_70 ?_
    refine r_as (y := (nI 16)) ((hwa 3 (by decide))) ?_
    refine gm_ald S hW (i := 11) (k := 16) (n := 63) (by decide) (by decide) rfl (by omega) dX10_does_71 ?_
    refine r_as (y := (nI 99)) ((hwd 16 (by decide))) ?_
    refine lv_iload_n hxe hcd dX10_does_72 rfl (lv_at hl 2 rfl) ?_
    refine r_calli (F := (mE Z B)) (r_runV hZ S hW (As := [.int (nI 99), .int (nI a1)]) (rest := []) (t_X10_adds l hZ B ν s.heap.size hnf hnf8 (nI 99) (nI a1)) k_X10_82 (r_recv hW (x := 0) (List.mem_range.mpr (by decide)) rfl rfl) (hl.1) rfl rfl (Nat.le_of_ble_eq_true rfl) ⟨Nat.le_of_ble_eq_true rfl, Nat.le_of_ble_eq_true rfl⟩ ⟨Nat.le_of_ble_eq_true rfl, Nat.le_of_ble_eq_true rfl⟩ dX10_does_73) hW (fun r73 u73 H locs hp73 hW => ?_)
    rcases hp73 with ⟨h1, rfl, rfl⟩ | ⟨h1, h2, rfl, rfl⟩ | ⟨h1, h2, rfl, rfl⟩
    · refine r_iret S hr hlk (F := (mE Z B)) (u := (up1 ν 0 (upd (ν 0) 0 (nI 1)))) hW ?_ dX10_does_76
      refine Or.inr ⟨?_, 1, by decide, by decide, rfl⟩
      rw [exV, if_pos (by decide), if_neg (fun z => h1 z.1)]
    · refine r_iret S hr hlk (F := (mE Z B)) (u := (up1 ν 0 (upd (ν 0) 0 (nI 2)))) hW ?_ dX10_does_76
      refine Or.inr ⟨?_, 2, by decide, by decide, rfl⟩
      rw [exV, if_pos (by decide), if_neg (fun z => by have := z.2; omega)]
    · refine r_iret S hr hlk (F := (mE Z B)) (u := (up1 ν 1 (insV (ν 1) (nfV (ν 1)) (nfV (ν 1)) (nI 99) (nI a1)))) hW ?_ dX10_does_76
      refine Or.inl ⟨_, _, _, ?_, mE6_i _ _⟩
      rw [exV, if_pos (by decide), if_pos (show KP (nI (WD (WA 3))) (nI a1) ∧ nfV (ν 1) < 8 from ⟨h1, h2⟩)]
      rfl
  · refine lv_iload_n hxe hcd dX10_does_0 rfl (lv_at hl 1 rfl) ?_
    refine lv_tableIn (tgt := 60) hxe hcd dX10_does_1 (by decide) (by decide) (by first | rfl | decide) (by decide) ?_
    refine lv_aload_n hxe hcd dX10_does_60 rfl (lv_at hl 0 rfl) ?_
    refine lv_aload_n hxe hcd dX10_does_61 rfl (lv_at hl 0 rfl) ?_
    refine gf_X10_47 S hW dX10_does_62 ?_
    refine lv_aload_n hxe hcd dX10_does_65 rfl (lv_at hl 0 rfl) ?_
    refine gf_X10_50 S hW dX10_does_66 ?_
    refine lv_iload_n hxe hcd dX10_does_69 rfl (lv_at hl 1 rfl) ?_
    refine gm_ald S hW (i := 12) (k := 4) (n := 13) (by decide) (by decide) rfl (by omega) dX10_does_70 ?_
    refine r_as (y := (nI 21)) ((hwa 4 (by decide))) ?_
    refine gm_ald S hW (i := 11) (k := 21) (n := 63) (by decide) (by decide) rfl (by omega) dX10_does_71 ?_
    refine r_as (y := (nI 102)) ((hwd 21 (by decide))) ?_
    refine lv_iload_n hxe hcd dX10_does_72 rfl (lv_at hl 2 rfl) ?_
    refine r_calli (F := (mE Z B)) (r_runV hZ S hW (As := [.int (nI 102), .int (nI a1)]) (rest := []) (t_X10_adds l hZ B ν s.heap.size hnf hnf8 (nI 102) (nI a1)) k_X10_82 (r_recv hW (x := 0) (List.mem_range.mpr (by decide)) rfl rfl) (hl.1) rfl rfl (Nat.le_of_ble_eq_true rfl) ⟨Nat.le_of_ble_eq_true rfl, Nat.le_of_ble_eq_true rfl⟩ ⟨Nat.le_of_ble_eq_true rfl, Nat.le_of_ble_eq_true rfl⟩ dX10_does_73) hW (fun r73 u73 H locs hp73 hW => ?_)
    rcases hp73 with ⟨h1, rfl, rfl⟩ | ⟨h1, h2, rfl, rfl⟩ | ⟨h1, h2, rfl, rfl⟩
    · refine r_iret S hr hlk (F := (mE Z B)) (u := (up1 ν 0 (upd (ν 0) 0 (nI 1)))) hW ?_ dX10_does_76
      refine Or.inr ⟨?_, 1, by decide, by decide, rfl⟩
      rw [exV, if_pos (by decide), if_neg (fun z => h1 z.1)]
    · refine r_iret S hr hlk (F := (mE Z B)) (u := (up1 ν 0 (upd (ν 0) 0 (nI 2)))) hW ?_ dX10_does_76
      refine Or.inr ⟨?_, 2, by decide, by decide, rfl⟩
      rw [exV, if_pos (by decide), if_neg (fun z => by have := z.2; omega)]
    · refine r_iret S hr hlk (F := (mE Z B)) (u := (up1 ν 1 (insV (ν 1) (nfV (ν 1)) (nfV (ν 1)) (nI 102) (nI a1)))) hW ?_ dX10_does_76
      refine Or.inl ⟨_, _, _, ?_, mE6_i _ _⟩
      rw [exV, if_pos (by decide), if_pos (show KP (nI (WD (WA 4))) (nI a1) ∧ nfV (ν 1) < 8 from ⟨h1, h2⟩)]
      rfl
  · refine lv_iload_n hxe hcd dX10_does_0 rfl (lv_at hl 1 rfl) ?_
    refine lv_tableIn (tgt := 60) hxe hcd dX10_does_1 (by decide) (by decide) (by first | rfl | decide) (by decide) ?_
    refine lv_aload_n hxe hcd dX10_does_60 rfl (lv_at hl 0 rfl) ?_
    refine lv_aload_n hxe hcd dX10_does_61 rfl (lv_at hl 0 rfl) ?_
    refine gf_X10_47 S hW dX10_does_62 ?_
    refine lv_aload_n hxe hcd dX10_does_65 rfl (lv_at hl 0 rfl) ?_
    refine gf_X10_50 S hW dX10_does_66 ?_
    refine lv_iload_n hxe hcd dX10_does_69 rfl (lv_at hl 1 rfl) ?_
    refine gm_ald S hW (i := 12) (k := 5) (n := 13) (by decide) (by decide) rfl (by omega) dX10_does_70 ?_
    refine r_as (y := (nI 25)) ((hwa 5 (by decide))) ?_
    refine gm_ald S hW (i := 11) (k := 25) (n := 63) (by decide) (by decide) rfl (by omega) dX10_does_71 ?_
    refine r_as (y := (nI 115)) ((hwd 25 (by decide))) ?_
    refine lv_iload_n hxe hcd dX10_does_72 rfl (lv_at hl 2 rfl) ?_
    refine r_calli (F := (mE Z B)) (r_runV hZ S hW (As := [.int (nI 115), .int (nI a1)]) (rest := []) (t_X10_adds l hZ B ν s.heap.size hnf hnf8 (nI 115) (nI a1)) k_X10_82 (r_recv hW (x := 0) (List.mem_range.mpr (by decide)) rfl rfl) (hl.1) rfl rfl (Nat.le_of_ble_eq_true rfl) ⟨Nat.le_of_ble_eq_true rfl, Nat.le_of_ble_eq_true rfl⟩ ⟨Nat.le_of_ble_eq_true rfl, Nat.le_of_ble_eq_true rfl⟩ dX10_does_73) hW (fun r73 u73 H locs hp73 hW => ?_)
    rcases hp73 with ⟨h1, rfl, rfl⟩ | ⟨h1, h2, rfl, rfl⟩ | ⟨h1, h2, rfl, rfl⟩
    · refine r_iret S hr hlk (F := (mE Z B)) (u := (up1 ν 0 (upd (ν 0) 0 (nI 1)))) hW ?_ dX10_does_76
      refine Or.inr ⟨?_, 1, by decide, by decide, rfl⟩
      rw [exV, if_pos (by decide), if_neg (fun z => h1 z.1)]
    · refine r_iret S hr hlk (F := (mE Z B)) (u := (up1 ν 0 (upd (ν 0) 0 (nI 2)))) hW ?_ dX10_does_76
      refine Or.inr ⟨?_, 2, by decide, by decide, rfl⟩
      rw [exV, if_pos (by decide), if_neg (fun z => by have := z.2; omega)]
    · refine r_iret S hr hlk (F := (mE Z B)) (u := (up1 ν 1 (insV (ν 1) (nfV (ν 1)) (nfV (ν 1)) (nI 115) (nI a1)))) hW ?_ dX10_does_76
      refine Or.inl ⟨_, _, _, ?_, mE6_i _ _⟩
      rw [exV, if_pos (by decide), if_pos (show KP (nI (WD (WA 5))) (nI a1) ∧ nfV (ν 1) < 8 from ⟨h1, h2⟩)]
      rfl
  · refine lv_iload_n hxe hcd dX10_does_0 rfl (lv_at hl 1 rfl) ?_
    refine lv_tableIn (tgt := 77) hxe hcd dX10_does_1 (by decide) (by decide) (by first | rfl | decide) (by decide) ?_
    refine lv_aload_n hxe hcd dX10_does_77 rfl (lv_at hl 0 rfl) ?_
    refine lv_iload_n hxe hcd dX10_does_78 rfl (lv_at hl 2 rfl) ?_
    refine r_calli (F := (mE Z B)) (r_runV hZ S hW (As := [.int (nI a1)]) (rest := []) (t_X10_takes l hZ B ν s.heap.size hnf hnf8 (nI a1)) k_X10_96 (r_recv hW (x := 0) (List.mem_range.mpr (by decide)) rfl rfl) (hl.1) rfl rfl (Nat.le_of_ble_eq_true rfl) ⟨Nat.le_of_ble_eq_true rfl, Nat.le_of_ble_eq_true rfl⟩ ⟨Nat.le_of_ble_eq_true rfl, Nat.le_of_ble_eq_true rfl⟩ dX10_does_79) hW (fun r79 u79 H locs hp79 hW => ?_)
    rcases hp79 with ⟨h1, rfl, rfl⟩ | ⟨q, hq, hx, rfl, rfl⟩
    · refine r_iret S hr hlk (F := (mE Z B)) (u := (up1 ν 0 (upd (ν 0) 0 (nI 1)))) hW ?_ dX10_does_82
      refine Or.inr ⟨?_, 1, by decide, by decide, rfl⟩
      rw [exV, if_neg (by decide), if_pos rfl, if_neg (fun z => h1 ⟨a1, z, rfl⟩)]
    · refine r_iret S hr hlk (F := (mE Z B)) (u := (up1 ν 1 (delV (ν 1) q (nfV (ν 1))))) hW ?_ dX10_does_82
      have ea : a1 = q := (nI_eq (by omega) (by first | omega | (have := hq; omega))).mp hx
      refine Or.inl ⟨_, _, _, ?_, mE6_i _ _⟩
      rw [exV, if_neg (by decide), if_pos rfl, if_pos ((by omega)), ea]
  · refine lv_iload_n hxe hcd dX10_does_0 rfl (lv_at hl 1 rfl) ?_
    refine lv_tableIn (tgt := 83) hxe hcd dX10_does_1 (by decide) (by decide) (by first | rfl | decide) (by decide) ?_
    refine lv_aload_n hxe hcd dX10_does_83 rfl (lv_at hl 0 rfl) ?_
    refine lv_iload_n hxe hcd dX10_does_84 rfl (lv_at hl 2 rfl) ?_
    refine lv_iload_n hxe hcd dX10_does_85 rfl (lv_at hl 3 rfl) ?_
    refine lv_iload hxe hcd dX10_does_86 (lv_at hl 4 rfl) ?_
    refine lv_iload hxe hcd dX10_does_88 (lv_at hl 5 rfl) ?_
    refine r_calli (F := (mE Z B)) (r_runV hZ S hW (As := [.int (nI a1), .int (nI a2), .int (nI a3), .int (nI a4)]) (rest := []) (t_X10_notes l hZ B ν s.heap.size (lnV (ν 1)) hln (nnV (ν 1)) hnn (nI a1) (nI a2) (nI a3) (nI a4)) k_X10_108 (r_recv hW (x := 0) (List.mem_range.mpr (by decide)) rfl rfl) (hl.1) rfl rfl (Nat.le_of_ble_eq_true rfl) ⟨Nat.le_of_ble_eq_true rfl, Nat.le_of_ble_eq_true rfl⟩ ⟨Nat.le_of_ble_eq_true rfl, Nat.le_of_ble_eq_true rfl⟩ dX10_does_90) hW (fun r90 u90 H locs hp90 hW => ?_)
    rcases hp90 with ⟨h1, rfl, rfl⟩ | ⟨h1, h2, rfl, rfl⟩ | ⟨q, k, hq, hx, nv, hk1, hk2, hk, h3, rfl, rfl⟩ | ⟨q, k, P, hq, hx, nv, hk1, hk2, hk, hP1, hP2, hP, h3, rfl, rfl⟩
    · refine r_iret S hr hlk (F := (mE Z B)) (u := (up1 ν 0 (upd (ν 0) 0 (nI 1)))) hW ?_ dX10_does_93
      refine Or.inr ⟨?_, 1, by decide, by decide, rfl⟩
      rw [exV, if_neg (by decide), if_neg (by decide), if_pos rfl, if_neg (fun z => h1 ⟨a1, z.1, rfl⟩)]
    · refine r_iret S hr hlk (F := (mE Z B)) (u := (up1 ν 0 (upd (ν 0) 0 (nI 2)))) hW ?_ dX10_does_93
      refine Or.inr ⟨?_, 2, by decide, by decide, rfl⟩
      rw [exV, if_neg (by decide), if_neg (by decide), if_pos rfl, if_neg (fun z => h2 z.2.1)]
    · refine r_iret S hr hlk (F := (mE Z B)) (u := (up1 ν 0 (upd (ν 0) 0 (nI 3)))) hW ?_ dX10_does_93
      have ea : a1 = q := (nI_eq (by omega) (by first | omega | (have := hq; omega))).mp hx
      have ed : a4 = k := (nI_eq (by omega) (by omega)).mp hk
      refine Or.inr ⟨?_, 3, by decide, by decide, rfl⟩
      rw [exV, if_neg (by decide), if_neg (by decide), if_pos rfl, if_neg (fun z => by have z3 := z.2.2; rw [ea, ed] at z3; exact h3 z3)]
    · refine r_iret S hr hlk (F := (mE Z B)) (u := (up1 ν 1 (noteV (ν 1) q ((lnV (ν 1)) q) ((nnV (ν 1)) q) P (nI a3) k))) hW ?_ dX10_does_93
      have ea : a1 = q := (nI_eq (by omega) (by first | omega | (have := hq; omega))).mp hx
      have ed : a4 = k := (nI_eq (by omega) (by omega)).mp hk
      have eb : a2 = P := (nI_eq (by omega) (by omega)).mp hP
      refine Or.inl ⟨_, _, _, ?_, mE6_i _ _⟩
      rw [exV, if_neg (by decide), if_neg (by decide), if_pos rfl, if_pos (⟨by omega, nv, by rw [ea, ed]; exact h3⟩), ea, ed, eb]
  · refine lv_iload_n hxe hcd dX10_does_0 rfl (lv_at hl 1 rfl) ?_
    refine lv_tableIn (tgt := 94) hxe hcd dX10_does_1 (by decide) (by decide) (by first | rfl | decide) (by decide) ?_
    refine lv_aload_n hxe hcd dX10_does_94 rfl (lv_at hl 0 rfl) ?_
    refine lv_iload_n hxe hcd dX10_does_95 rfl (lv_at hl 2 rfl) ?_
    refine r_calli (F := (mE Z B)) (r_runV hZ S hW (As := [.int (nI a1)]) (rest := []) (t_X10_addsTank l hZ B ν s.heap.size hnt hnt4 (nI a1)) k_X10_147 (r_recv hW (x := 0) (List.mem_range.mpr (by decide)) rfl rfl) (hl.1) rfl rfl (Nat.le_of_ble_eq_true rfl) ⟨Nat.le_of_ble_eq_true rfl, Nat.le_of_ble_eq_true rfl⟩ ⟨Nat.le_of_ble_eq_true rfl, Nat.le_of_ble_eq_true rfl⟩ dX10_does_96) hW (fun r96 u96 H locs hp96 hW => ?_)
    rcases hp96 with ⟨h1, rfl, rfl⟩ | ⟨h1, h2, rfl, rfl⟩ | ⟨h1, h2, rfl, rfl⟩
    · refine r_iret S hr hlk (F := (mE Z B)) (u := (up1 ν 0 (upd (ν 0) 0 (nI 1)))) hW ?_ dX10_does_99
      refine Or.inr ⟨?_, 1, by decide, by decide, rfl⟩
      rw [exV, if_neg (by decide), if_neg (by decide), if_neg (by decide), if_pos rfl, if_neg (fun z => h1 ((nI_rn (by omega) (by decide) (by decide)).mpr ⟨z.1, z.2.1⟩))]
    · refine r_iret S hr hlk (F := (mE Z B)) (u := (up1 ν 0 (upd (ν 0) 0 (nI 2)))) hW ?_ dX10_does_99
      refine Or.inr ⟨?_, 2, by decide, by decide, rfl⟩
      rw [exV, if_neg (by decide), if_neg (by decide), if_neg (by decide), if_pos rfl, if_neg (fun z => by have := z.2.2; omega)]
    · refine r_iret S hr hlk (F := (mE Z B)) (u := (up1 ν 1 (upd (upd (upd (ν 1) (29 + 12 * (ntV (ν 1)) + 0) (nI a1)) (29 + 12 * (ntV (ν 1)) + 1) (nI 9999)) 1 (nI ((ntV (ν 1)) + 1))))) hW ?_ dX10_does_99
      refine Or.inl ⟨_, _, _, ?_, mE6_i _ _⟩
      rw [exV, if_neg (by decide), if_neg (by decide), if_neg (by decide), if_pos rfl, if_pos (⟨((nI_rn (by omega) (by decide) (by decide)).mp h1).1, ((nI_rn (by omega) (by decide) (by decide)).mp h1).2, h2⟩)]
  · refine lv_iload_n hxe hcd dX10_does_0 rfl (lv_at hl 1 rfl) ?_
    refine lv_tableIn (tgt := 100) hxe hcd dX10_does_1 (by decide) (by decide) (by first | rfl | decide) (by decide) ?_
    refine lv_aload_n hxe hcd dX10_does_100 rfl (lv_at hl 0 rfl) ?_
    refine lv_iload_n hxe hcd dX10_does_101 rfl (lv_at hl 2 rfl) ?_
    refine lv_iload_n hxe hcd dX10_does_102 rfl (lv_at hl 3 rfl) ?_
    refine r_calli (F := (mE Z B)) (r_runV hZ S hW (As := [.int (nI a1), .int (nI a2)]) (rest := []) (t_X10_tunes l hZ B ν s.heap.size hnt hnt4 (nI a1) (nI a2)) k_X10_153 (r_recv hW (x := 0) (List.mem_range.mpr (by decide)) rfl rfl) (hl.1) rfl rfl (Nat.le_of_ble_eq_true rfl) ⟨Nat.le_of_ble_eq_true rfl, Nat.le_of_ble_eq_true rfl⟩ ⟨Nat.le_of_ble_eq_true rfl, Nat.le_of_ble_eq_true rfl⟩ dX10_does_103) hW (fun r103 u103 H locs hp103 hW => ?_)
    rcases hp103 with ⟨h1, rfl, rfl⟩ | ⟨h1, h2, rfl, rfl⟩ | ⟨q, hq, hx, h2, rfl, rfl⟩
    · refine r_iret S hr hlk (F := (mE Z B)) (u := (up1 ν 0 (upd (ν 0) 0 (nI 1)))) hW ?_ dX10_does_106
      refine Or.inr ⟨?_, 1, by decide, by decide, rfl⟩
      rw [exV, if_neg (by decide), if_neg (by decide), if_neg (by decide), if_neg (by decide), if_pos rfl, if_neg (fun z => h1 ⟨a1, z, rfl⟩)]
    · refine r_iret S hr hlk (F := (mE Z B)) (u := (up1 ν 0 (upd (ν 0) 0 (nI 2)))) hW ?_ dX10_does_106
      exact absurd ((nI_rn (by omega) (by decide) (by decide)).mpr ⟨Nat.zero_le _, by omega⟩) h2
    · refine r_iret S hr hlk (F := (mE Z B)) (u := (up1 ν 1 (upd (ν 1) (29 + 12 * q + 1) (nI a2)))) hW ?_ dX10_does_106
      have ea : a1 = q := (nI_eq (by omega) (by first | omega | (have := hq; omega))).mp hx
      refine Or.inl ⟨_, _, _, ?_, mE6_i _ _⟩
      rw [exV, if_neg (by decide), if_neg (by decide), if_neg (by decide), if_neg (by decide), if_pos rfl, if_pos ((by omega)), ea]
  · refine lv_iload_n hxe hcd dX10_does_0 rfl (lv_at hl 1 rfl) ?_
    refine lv_tableIn (tgt := 107) hxe hcd dX10_does_1 (by decide) (by decide) (by first | rfl | decide) (by decide) ?_
    refine lv_aload_n hxe hcd dX10_does_107 rfl (lv_at hl 0 rfl) ?_
    refine lv_iload_n hxe hcd dX10_does_108 rfl (lv_at hl 2 rfl) ?_
    refine r_calli (F := (mE Z B)) (r_runV hZ S hW (As := [.int (nI a1)]) (rest := []) (t_X10_poursAll l hZ B ν s.heap.size (lnV (ν 1)) hln (nnV (ν 1)) hnn hnf hnf8 (psV (ν 1)) hps hnt hnt4 (cpN (ν 1)) (lvN (ν 1)) hV (nI a1)) k_X10_165 (r_recv hW (x := 0) (List.mem_range.mpr (by decide)) rfl rfl) (hl.1) rfl rfl (Nat.le_of_ble_eq_true rfl) ⟨Nat.le_of_ble_eq_true rfl, Nat.le_of_ble_eq_true rfl⟩ ⟨Nat.le_of_ble_eq_true rfl, Nat.le_of_ble_eq_true rfl⟩ dX10_does_109) hW (fun r109 u109 H locs hp109 hW => ?_)
    rcases hp109 with ⟨h1, rfl, rfl⟩ | ⟨q, hq, hx, h0, rfl, rfl⟩ | ⟨q, hq, hx, h0, rfl, o2, g2, rfl⟩
    · refine r_iret S hr hlk (F := (mE Z B)) (u := (up1 ν 0 (upd (ν 0) 0 (nI 1)))) hW ?_ dX10_does_112
      refine Or.inr ⟨?_, 1, by decide, by decide, rfl⟩
      rw [exV, if_neg (by decide), if_neg (by decide), if_neg (by decide), if_neg (by decide), if_neg (by decide), if_pos rfl, if_neg (fun z => h1 ⟨a1, z.1, rfl⟩)]
    · refine r_iret S hr hlk (F := (mE Z B)) (u := (up1 ν 0 (upd (ν 0) 0 (nI 2)))) hW ?_ dX10_does_112
      have ea : a1 = q := (nI_eq (by omega) (by first | omega | (have := hq; omega))).mp hx
      refine Or.inr ⟨?_, 2, by decide, by decide, rfl⟩
      rw [exV, if_neg (by decide), if_neg (by decide), if_neg (by decide), if_neg (by decide), if_neg (by decide), if_pos rfl, if_neg (fun z => by have z2 := z.2; rw [ea] at z2; omega)]
    · refine r_iret S hr hlk (F := (mE Z B)) (u := (up1 (up1 (up1 ν 6 o2) 7 g2) 1 (pourN (ν 1) (ntV (ν 1)) (ldV (flV (ν 1) q (nfV (ν 1))) ((lnV (ν 1)) q)) (((lnV (ν 1)) q + 7) / 8)))) hW ?_ dX10_does_112
      have ea : a1 = q := (nI_eq (by omega) (by first | omega | (have := hq; omega))).mp hx
      refine Or.inl ⟨o2, g2, _, ?_, rfl⟩
      rw [exV, if_neg (by decide), if_neg (by decide), if_neg (by decide), if_neg (by decide), if_neg (by decide), if_pos rfl, if_pos (⟨by omega, by rw [ea]; exact h0⟩), ea]
  · refine lv_iload_n hxe hcd dX10_does_0 rfl (lv_at hl 1 rfl) ?_
    refine lv_tableOut (tgt := 113) hxe hcd dX10_does_1 (Or.inr (by decide)) (by decide) ?_
    refine lv_aload_n hxe hcd dX10_does_113 rfl (lv_at hl 0 rfl) ?_
    refine lv_iload_n hxe hcd dX10_does_114 rfl (lv_at hl 2 rfl) ?_
    refine lv_iload_n hxe hcd dX10_does_115 rfl (lv_at hl 3 rfl) ?_
    refine r_calli (F := (mE Z B)) (r_runV hZ S hW (As := [.int (nI a1), .int (nI a2)]) (rest := []) (t_X10_drains l hZ B ν s.heap.size hnt hnt4 (cpN (ν 1)) (lvN (ν 1)) hV (nI a1) (nI a2)) k_X10_168 (r_recv hW (x := 0) (List.mem_range.mpr (by decide)) rfl rfl) (hl.1) rfl rfl (Nat.le_of_ble_eq_true rfl) ⟨Nat.le_of_ble_eq_true rfl, Nat.le_of_ble_eq_true rfl⟩ ⟨Nat.le_of_ble_eq_true rfl, Nat.le_of_ble_eq_true rfl⟩ dX10_does_116) hW (fun r116 u116 H locs hp116 hW => ?_)
    rcases hp116 with ⟨h1, rfl, rfl⟩ | ⟨h1, h2, rfl, rfl⟩ | ⟨q, j, hq, hx, hj1, hj2, hy, hl3, rfl, rfl⟩ | ⟨q, j, hq, hx, hj1, hj2, hy, hl3, rfl, rfl⟩
    · refine r_iret S hr hlk (F := (mE Z B)) (u := (up1 ν 0 (upd (ν 0) 0 (nI 1)))) hW ?_ dX10_does_119
      refine Or.inr ⟨?_, 1, by decide, by decide, rfl⟩
      rw [exV, if_neg (by decide), if_neg (by decide), if_neg (by decide), if_neg (by decide), if_neg (by decide), if_neg (by decide), if_neg (fun z => h1 ⟨a1, z.1, rfl⟩)]
    · refine r_iret S hr hlk (F := (mE Z B)) (u := (up1 ν 0 (upd (ν 0) 0 (nI 2)))) hW ?_ dX10_does_119
      refine Or.inr ⟨?_, 2, by decide, by decide, rfl⟩
      rw [exV, if_neg (by decide), if_neg (by decide), if_neg (by decide), if_neg (by decide), if_neg (by decide), if_neg (by decide), if_neg (fun z => h2 ((nI_rn (by omega) (by decide) (by decide)).mpr ⟨z.2.1, z.2.2.1⟩))]
    · refine r_iret S hr hlk (F := (mE Z B)) (u := (up1 ν 0 (upd (ν 0) 0 (nI 3)))) hW ?_ dX10_does_119
      have ea : a1 = q := (nI_eq (by omega) (by first | omega | (have := hq; omega))).mp hx
      have ej : a2 = j := (nI_eq (by omega) (by omega)).mp hy
      refine Or.inr ⟨?_, 3, by decide, by decide, rfl⟩
      rw [exV, if_neg (by decide), if_neg (by decide), if_neg (by decide), if_neg (by decide), if_neg (by decide), if_neg (by decide), if_neg (fun z => by have z3 := z.2.2.2; rw [ea, ej] at z3; omega)]
    · refine r_iret S hr hlk (F := (mE Z B)) (u := (up1 ν 1 (drnV (ν 1) q ((lvN (ν 1)) q) j))) hW ?_ dX10_does_119
      have ea : a1 = q := (nI_eq (by omega) (by first | omega | (have := hq; omega))).mp hx
      have ej : a2 = j := (nI_eq (by omega) (by omega)).mp hy
      refine Or.inl ⟨_, _, _, ?_, mE6_i _ _⟩
      rw [exV, if_neg (by decide), if_neg (by decide), if_neg (by decide), if_neg (by decide), if_neg (by decide), if_neg (by decide), if_pos (⟨by omega, by omega, by omega, by rw [ea, ej]; exact hl3⟩), ea, ej]
