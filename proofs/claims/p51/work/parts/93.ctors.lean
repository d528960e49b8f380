set_option maxHeartbeats 4000000 in
set_option maxRecDepth 100000 in
theorem t_X0_init (l : Launch) {Z : ZT} (hZ : zOK Z) (sz h : Nat) : XI l yX0_init cX0_init 1 1 2 16 [.ref h] Z [(h, .inr (2, [.null, .null, .int 0]))] sz (fun u => ∃ (q7 q15 : Nat), u = [(h, .inr (2, [.ref q7, .ref q15, .int (nI 0)])), (q7, .inl (zI Z, 8, .inl (fun _ => nI 0))), (q15, .inl (zI Z, 8, .inl (fun _ => nI 0)))]) := by
  refine w_met (by decide +kernel) (Nat.le_of_ble_eq_true rfl) ?_
  intro p e s m below meth c ls S hr hlk hnm hsz hW hl
  have hxe := S.1
  have hcd := S.2.1
  subst hsz
  have hl : lv_has ls 1 [(0, .ref h)] := hl
  refine lv_aload_n hxe hcd dX0_init_0 rfl (lv_at hl 0 rfl) ?_
  refine w_obj S hl.1 g_80 dX0_init_1 (Nat.le_of_ble_eq_true rfl) (Nat.le_of_ble_eq_true rfl) ?_
  refine lv_aload_n hxe hcd dX0_init_4 rfl (lv_at hl 0 rfl) ?_
  refine lv_bipush (v := (nI 8)) hxe hcd dX0_init_5 (by decide) ?_
  refine w_newa S hW (N := 8) (by decide) (Nat.le_of_ble_eq_true rfl) (Nat.le_of_ble_eq_true rfl) dX0_init_7 (fun q7 H hW => ?_)
  have hW : wW Z [(h, .inr (2, [.null, .null, .int 0])), (q7, .inl (zI Z, 8, .inl (fun _ => nI 0)))] _ s _ _ := hW
  refine w_putF S hW 0 rfl rfl in_RX0 tyX0 tyX0_ok nmX0 0 (by decide) g_81 rfl hnm rfl (tyX0_ok 0 (by decide)) rfl rfl (Nat.le_of_ble_eq_true rfl) (ws' := [(h, .inr (2, [.ref q7, .null, .int 0])), (q7, .inl (zI Z, 8, .inl (fun _ => nI 0)))]) rfl dX0_init_9 (fun H locs hW => ?_)
  refine lv_aload_n hxe hcd dX0_init_12 rfl (lv_at hl 0 rfl) ?_
  refine lv_bipush (v := (nI 8)) hxe hcd dX0_init_13 (by decide) ?_
  refine w_newa S hW (N := 8) (by decide) (Nat.le_of_ble_eq_true rfl) (Nat.le_of_ble_eq_true rfl) dX0_init_15 (fun q15 H hW => ?_)
  have hW : wW Z [(h, .inr (2, [.ref q7, .null, .int 0])), (q7, .inl (zI Z, 8, .inl (fun _ => nI 0))), (q15, .inl (zI Z, 8, .inl (fun _ => nI 0)))] _ s _ _ := hW
  refine w_putF S hW 0 rfl rfl in_RX0 tyX0 tyX0_ok nmX0 1 (by decide) g_82 rfl hnm rfl (tyX0_ok 1 (by decide)) rfl rfl (Nat.le_of_ble_eq_true rfl) (ws' := [(h, .inr (2, [.ref q7, .ref q15, .int 0])), (q7, .inl (zI Z, 8, .inl (fun _ => nI 0))), (q15, .inl (zI Z, 8, .inl (fun _ => nI 0)))]) rfl dX0_init_17 (fun H locs hW => ?_)
  refine lv_aload_n hxe hcd dX0_init_20 rfl (lv_at hl 0 rfl) ?_
  refine lv_iconst (v := (nI 0)) hxe hcd dX0_init_21 (by decide) ?_
  refine w_put S hW 0 rfl rfl in_RX0 tyX0 tyX0_ok nmX0 2 (by decide) g_83 rfl (tyX0_ok 2 (by decide)) rfl rfl (Nat.le_of_ble_eq_true rfl) (ws' := [(h, .inr (2, [.ref q7, .ref q15, .int (nI 0)])), (q7, .inl (zI Z, 8, .inl (fun _ => nI 0))), (q15, .inl (zI Z, 8, .inl (fun _ => nI 0)))]) rfl dX0_init_22 (fun H locs hW => ?_)
  exact w_vret S hr hlk hW ⟨q7, q15, rfl⟩ dX0_init_25
set_option maxHeartbeats 4000000 in
set_option maxRecDepth 100000 in
theorem t_X5_init (l : Launch) {Z : ZT} (hZ : zOK Z) (sz h : Nat) : XI l yX5_init cX5_init 1 1 4 1288 [.ref h] Z [(h, .inr (7, [.null, .null, .null, .null]))] sz (fun u => ∃ (q8 q17 q24 q31 : Nat), u = [(h, .inr (7, [.ref q8, .ref q17, .ref q24, .ref q31])), (q8, .inl (zI Z, 640, .inl (fun _ => nI 0))), (q17, .inl (zI Z, 640, .inl (fun _ => nI 0))), (q24, .inl (zI Z, 4, .inl (fun _ => nI 0))), (q31, .inl (zI Z, 4, .inl (fun _ => nI 0)))]) := by
  refine w_met (by decide +kernel) (Nat.le_of_ble_eq_true rfl) ?_
  intro p e s m below meth c ls S hr hlk hnm hsz hW hl
  have hxe := S.1
  have hcd := S.2.1
  subst hsz
  have hl : lv_has ls 1 [(0, .ref h)] := hl
  refine lv_aload_n hxe hcd dX5_init_0 rfl (lv_at hl 0 rfl) ?_
  refine w_obj S hl.1 g_99 dX5_init_1 (Nat.le_of_ble_eq_true rfl) (Nat.le_of_ble_eq_true rfl) ?_
  refine lv_aload_n hxe hcd dX5_init_4 rfl (lv_at hl 0 rfl) ?_
  refine lv_sipush (v := (nI 640)) hxe hcd dX5_init_5 (by decide) ?_
  refine w_newa S hW (N := 640) (by decide) (Nat.le_of_ble_eq_true rfl) (Nat.le_of_ble_eq_true rfl) dX5_init_8 (fun q8 H hW => ?_)
  have hW : wW Z [(h, .inr (7, [.null, .null, .null, .null])), (q8, .inl (zI Z, 640, .inl (fun _ => nI 0)))] _ s _ _ := hW
  refine w_putF S hW 0 rfl rfl in_RX5 tyX5 tyX5_ok nmX5 0 (by decide) g_100 rfl hnm rfl (tyX5_ok 0 (by decide)) rfl rfl (Nat.le_of_ble_eq_true rfl) (ws' := [(h, .inr (7, [.ref q8, .null, .null, .null])), (q8, .inl (zI Z, 640, .inl (fun _ => nI 0)))]) rfl dX5_init_10 (fun H locs hW => ?_)
  refine lv_aload_n hxe hcd dX5_init_13 rfl (lv_at hl 0 rfl) ?_
  refine lv_sipush (v := (nI 640)) hxe hcd dX5_init_14 (by decide) ?_
  refine w_newa S hW (N := 640) (by decide) (Nat.le_of_ble_eq_true rfl) (Nat.le_of_ble_eq_true rfl) dX5_init_17 (fun q17 H hW => ?_)
  have hW : wW Z [(h, .inr (7, [.ref q8, .null, .null, .null])), (q8, .inl (zI Z, 640, .inl (fun _ => nI 0))), (q17, .inl (zI Z, 640, .inl (fun _ => nI 0)))] _ s _ _ := hW
  refine w_putF S hW 0 rfl rfl in_RX5 tyX5 tyX5_ok nmX5 1 (by decide) g_101 rfl hnm rfl (tyX5_ok 1 (by decide)) rfl rfl (Nat.le_of_ble_eq_true rfl) (ws' := [(h, .inr (7, [.ref q8, .ref q17, .null, .null])), (q8, .inl (zI Z, 640, .inl (fun _ => nI 0))), (q17, .inl (zI Z, 640, .inl (fun _ => nI 0)))]) rfl dX5_init_19 (fun H locs hW => ?_)
  refine lv_aload_n hxe hcd dX5_init_22 rfl (lv_at hl 0 rfl) ?_
  refine lv_iconst (v := (nI 4)) hxe hcd dX5_init_23 (by decide) ?_
  refine w_newa S hW (N := 4) (by decide) (Nat.le_of_ble_eq_true rfl) (Nat.le_of_ble_eq_true rfl) dX5_init_24 (fun q24 H hW => ?_)
  have hW : wW Z [(h, .inr (7, [.ref q8, .ref q17, .null, .null])), (q8, .inl (zI Z, 640, .inl (fun _ => nI 0))), (q17, .inl (zI Z, 640, .inl (fun _ => nI 0))), (q24, .inl (zI Z, 4, .inl (fun _ => nI 0)))] _ s _ _ := hW
  refine w_putF S hW 0 rfl rfl in_RX5 tyX5 tyX5_ok nmX5 2 (by decide) g_102 rfl hnm rfl (tyX5_ok 2 (by decide)) rfl rfl (Nat.le_of_ble_eq_true rfl) (ws' := [(h, .inr (7, [.ref q8, .ref q17, .ref q24, .null])), (q8, .inl (zI Z, 640, .inl (fun _ => nI 0))), (q17, .inl (zI Z, 640, .inl (fun _ => nI 0))), (q24, .inl (zI Z, 4, .inl (fun _ => nI 0)))]) rfl dX5_init_26 (fun H locs hW => ?_)
  refine lv_aload_n hxe hcd dX5_init_29 rfl (lv_at hl 0 rfl) ?_
  refine lv_iconst (v := (nI 4)) hxe hcd dX5_init_30 (by decide) ?_
  refine w_newa S hW (N := 4) (by decide) (Nat.le_of_ble_eq_true rfl) (Nat.le_of_ble_eq_true rfl) dX5_init_31 (fun q31 H hW => ?_)
  have hW : wW Z [(h, .inr (7, [.ref q8, .ref q17, .ref q24, .null])), (q8, .inl (zI Z, 640, .inl (fun _ => nI 0))), (q17, .inl (zI Z, 640, .inl (fun _ => nI 0))), (q24, .inl (zI Z, 4, .inl (fun _ => nI 0))), (q31, .inl (zI Z, 4, .inl (fun _ => nI 0)))] _ s _ _ := hW
  refine w_putF S hW 0 rfl rfl in_RX5 tyX5 tyX5_ok nmX5 3 (by decide) g_103 rfl hnm rfl (tyX5_ok 3 (by decide)) rfl rfl (Nat.le_of_ble_eq_true rfl) (ws' := [(h, .inr (7, [.ref q8, .ref q17, .ref q24, .ref q31])), (q8, .inl (zI Z, 640, .inl (fun _ => nI 0))), (q17, .inl (zI Z, 640, .inl (fun _ => nI 0))), (q24, .inl (zI Z, 4, .inl (fun _ => nI 0))), (q31, .inl (zI Z, 4, .inl (fun _ => nI 0)))]) rfl dX5_init_33 (fun H locs hW => ?_)
  exact w_vret S hr hlk hW ⟨q8, q17, q24, q31, rfl⟩ dX5_init_36
set_option maxHeartbeats 4000000 in
set_option maxRecDepth 100000 in
theorem t_X7_init (l : Launch) {Z : ZT} (hZ : zOK Z) (sz h : Nat) : XI l yX7_init cX7_init 1 1 4 48 [.ref h] Z [(h, .inr (9, [.null, .null, .null, .null, .int 0, .int 0, .int 0, .int 0]))] sz (fun u => ∃ (q6 q13 q20 q28 : Nat), u = [(h, .inr (9, [.ref q6, .ref q13, .ref q20, .ref q28, .int (nI 0), .int (nI 0), .int (nI 0), .int (nI 0)])), (q6, .inl (zI Z, 4, .inl (fun _ => nI 0))), (q13, .inl (zI Z, 4, .inl (fun _ => nI 0))), (q20, .inl (zI Z, 4, .inl (fun _ => nI 0))), (q28, .inl (zI Z, 36, .inl (fun _ => nI 0)))]) := by
  refine w_met (by decide +kernel) (Nat.le_of_ble_eq_true rfl) ?_
  intro p e s m below meth c ls S hr hlk hnm hsz hW hl
  have hxe := S.1
  have hcd := S.2.1
  subst hsz
  have hl : lv_has ls 1 [(0, .ref h)] := hl
  refine lv_aload_n hxe hcd dX7_init_0 rfl (lv_at hl 0 rfl) ?_
  refine w_obj S hl.1 g_118 dX7_init_1 (Nat.le_of_ble_eq_true rfl) (Nat.le_of_ble_eq_true rfl) ?_
  refine lv_aload_n hxe hcd dX7_init_4 rfl (lv_at hl 0 rfl) ?_
  refine lv_iconst (v := (nI 4)) hxe hcd dX7_init_5 (by decide) ?_
  refine w_newa S hW (N := 4) (by decide) (Nat.le_of_ble_eq_true rfl) (Nat.le_of_ble_eq_true rfl) dX7_init_6 (fun q6 H hW => ?_)
  have hW : wW Z [(h, .inr (9, [.null, .null, .null, .null, .int 0, .int 0, .int 0, .int 0])), (q6, .inl (zI Z, 4, .inl (fun _ => nI 0)))] _ s _ _ := hW
  refine w_putF S hW 0 rfl rfl in_RX7 tyX7 tyX7_ok nmX7 0 (by decide) g_119 rfl hnm rfl (tyX7_ok 0 (by decide)) rfl rfl (Nat.le_of_ble_eq_true rfl) (ws' := [(h, .inr (9, [.ref q6, .null, .null, .null, .int 0, .int 0, .int 0, .int 0])), (q6, .inl (zI Z, 4, .inl (fun _ => nI 0)))]) rfl dX7_init_8 (fun H locs hW => ?_)
  refine lv_aload_n hxe hcd dX7_init_11 rfl (lv_at hl 0 rfl) ?_
  refine lv_iconst (v := (nI 4)) hxe hcd dX7_init_12 (by decide) ?_
  refine w_newa S hW (N := 4) (by decide) (Nat.le_of_ble_eq_true rfl) (Nat.le_of_ble_eq_true rfl) dX7_init_13 (fun q13 H hW => ?_)
  have hW : wW Z [(h, .inr (9, [.ref q6, .null, .null, .null, .int 0, .int 0, .int 0, .int 0])), (q6, .inl (zI Z, 4, .inl (fun _ => nI 0))), (q13, .inl (zI Z, 4, .inl (fun _ => nI 0)))] _ s _ _ := hW
  refine w_putF S hW 0 rfl rfl in_RX7 tyX7 tyX7_ok nmX7 1 (by decide) g_120 rfl hnm rfl (tyX7_ok 1 (by decide)) rfl rfl (Nat.le_of_ble_eq_true rfl) (ws' := [(h, .inr (9, [.ref q6, .ref q13, .null, .null, .int 0, .int 0, .int 0, .int 0])), (q6, .inl (zI Z, 4, .inl (fun _ => nI 0))), (q13, .inl (zI Z, 4, .inl (fun _ => nI 0)))]) rfl dX7_init_15 (fun H locs hW => ?_)
  refine lv_aload_n hxe hcd dX7_init_18 rfl (lv_at hl 0 rfl) ?_
  refine lv_iconst (v := (nI 4)) hxe hcd dX7_init_19 (by decide) ?_
  refine w_newa S hW (N := 4) (by decide) (Nat.le_of_ble_eq_true rfl) (Nat.le_of_ble_eq_true rfl) dX7_init_20 (fun q20 H hW => ?_)
  have hW : wW Z [(h, .inr (9, [.ref q6, .ref q13, .null, .null, .int 0, .int 0, .int 0, .int 0])), (q6, .inl (zI Z, 4, .inl (fun _ => nI 0))), (q13, .inl (zI Z, 4, .inl (fun _ => nI 0))), (q20, .inl (zI Z, 4, .inl (fun _ => nI 0)))] _ s _ _ := hW
  refine w_putF S hW 0 rfl rfl in_RX7 tyX7 tyX7_ok nmX7 2 (by decide) g_121 rfl hnm rfl (tyX7_ok 2 (by decide)) rfl rfl (Nat.le_of_ble_eq_true rfl) (ws' := [(h, .inr (9, [.ref q6, .ref q13, .ref q20, .null, .int 0, .int 0, .int 0, .int 0])), (q6, .inl (zI Z, 4, .inl (fun _ => nI 0))), (q13, .inl (zI Z, 4, .inl (fun _ => nI 0))), (q20, .inl (zI Z, 4, .inl (fun _ => nI 0)))]) rfl dX7_init_22 (fun H locs hW => ?_)
  refine lv_aload_n hxe hcd dX7_init_25 rfl (lv_at hl 0 rfl) ?_
  refine lv_bipush (v := (nI 36)) hxe hcd dX7_init_26 (by decide) ?_
  refine w_newa S hW (N := 36) (by decide) (Nat.le_of_ble_eq_true rfl) (Nat.le_of_ble_eq_true rfl) dX7_init_28 (fun q28 H hW => ?_)
  have hW : wW Z [(h, .inr (9, [.ref q6, .ref q13, .ref q20, .null, .int 0, .int 0, .int 0, .int 0])), (q6, .inl (zI Z, 4, .inl (fun _ => nI 0))), (q13, .inl (zI Z, 4, .inl (fun _ => nI 0))), (q20, .inl (zI Z, 4, .inl (fun _ => nI 0))), (q28, .inl (zI Z, 36, .inl (fun _ => nI 0)))] _ s _ _ := hW
  refine w_putF S hW 0 rfl rfl in_RX7 tyX7 tyX7_ok nmX7 3 (by decide) g_122 rfl hnm rfl (tyX7_ok 3 (by decide)) rfl rfl (Nat.le_of_ble_eq_true rfl) (ws' := [(h, .inr (9, [.ref q6, .ref q13, .ref q20, .ref q28, .int 0, .int 0, .int 0, .int 0])), (q6, .inl (zI Z, 4, .inl (fun _ => nI 0))), (q13, .inl (zI Z, 4, .inl (fun _ => nI 0))), (q20, .inl (zI Z, 4, .inl (fun _ => nI 0))), (q28, .inl (zI Z, 36, .inl (fun _ => nI 0)))]) rfl dX7_init_30 (fun H locs hW => ?_)
  refine lv_aload_n hxe hcd dX7_init_33 rfl (lv_at hl 0 rfl) ?_
  refine lv_iconst (v := (nI 0)) hxe hcd dX7_init_34 (by decide) ?_
  refine w_put S hW 0 rfl rfl in_RX7 tyX7 tyX7_ok nmX7 4 (by decide) g_123 rfl (tyX7_ok 4 (by decide)) rfl rfl (Nat.le_of_ble_eq_true rfl) (ws' := [(h, .inr (9, [.ref q6, .ref q13, .ref q20, .ref q28, .int (nI 0), .int 0, .int 0, .int 0])), (q6, .inl (zI Z, 4, .inl (fun _ => nI 0))), (q13, .inl (zI Z, 4, .inl (fun _ => nI 0))), (q20, .inl (zI Z, 4, .inl (fun _ => nI 0))), (q28, .inl (zI Z, 36, .inl (fun _ => nI 0)))]) rfl dX7_init_35 (fun H locs hW => ?_)
  refine lv_aload_n hxe hcd dX7_init_38 rfl (lv_at hl 0 rfl) ?_
  refine lv_iconst (v := (nI 0)) hxe hcd dX7_init_39 (by decide) ?_
  refine w_put S hW 0 rfl rfl in_RX7 tyX7 tyX7_ok nmX7 5 (by decide) g_125 rfl (tyX7_ok 5 (by decide)) rfl rfl (Nat.le_of_ble_eq_true rfl) (ws' := [(h, .inr (9, [.ref q6, .ref q13, .ref q20, .ref q28, .int (nI 0), .int (nI 0), .int 0, .int 0])), (q6, .inl (zI Z, 4, .inl (fun _ => nI 0))), (q13, .inl (zI Z, 4, .inl (fun _ => nI 0))), (q20, .inl (zI Z, 4, .inl (fun _ => nI 0))), (q28, .inl (zI Z, 36, .inl (fun _ => nI 0)))]) rfl dX7_init_40 (fun H locs hW => ?_)
  refine lv_aload_n hxe hcd dX7_init_43 rfl (lv_at hl 0 rfl) ?_
  refine lv_iconst (v := (nI 0)) hxe hcd dX7_init_44 (by decide) ?_
  refine w_put S hW 0 rfl rfl in_RX7 tyX7 tyX7_ok nmX7 6 (by decide) g_127 rfl (tyX7_ok 6 (by decide)) rfl rfl (Nat.le_of_ble_eq_true rfl) (ws' := [(h, .inr (9, [.ref q6, .ref q13, .ref q20, .ref q28, .int (nI 0), .int (nI 0), .int (nI 0), .int 0])), (q6, .inl (zI Z, 4, .inl (fun _ => nI 0))), (q13, .inl (zI Z, 4, .inl (fun _ => nI 0))), (q20, .inl (zI Z, 4, .inl (fun _ => nI 0))), (q28, .inl (zI Z, 36, .inl (fun _ => nI 0)))]) rfl dX7_init_45 (fun H locs hW => ?_)
  refine lv_aload_n hxe hcd dX7_init_48 rfl (lv_at hl 0 rfl) ?_
  refine lv_iconst (v := (nI 0)) hxe hcd dX7_init_49 (by decide) ?_
  refine w_put S hW 0 rfl rfl in_RX7 tyX7 tyX7_ok nmX7 7 (by decide) g_129 rfl (tyX7_ok 7 (by decide)) rfl rfl (Nat.le_of_ble_eq_true rfl) (ws' := [(h, .inr (9, [.ref q6, .ref q13, .ref q20, .ref q28, .int (nI 0), .int (nI 0), .int (nI 0), .int (nI 0)])), (q6, .inl (zI Z, 4, .inl (fun _ => nI 0))), (q13, .inl (zI Z, 4, .inl (fun _ => nI 0))), (q20, .inl (zI Z, 4, .inl (fun _ => nI 0))), (q28, .inl (zI Z, 36, .inl (fun _ => nI 0)))]) rfl dX7_init_50 (fun H locs hW => ?_)
  exact w_vret S hr hlk hW ⟨q6, q13, q20, q28, rfl⟩ dX7_init_53
set_option maxHeartbeats 4000000 in
set_option maxRecDepth 100000 in
theorem t_X6_init (l : Launch) {Z : ZT} (hZ : zOK Z) (sz h : Nat) : XI l yX6_init cX6_init 1 2 13 1367 [.ref h] Z [(h, .inr (8, [.null, .null, .null]))] sz (fun u => ∃ a : Nat → Nat, a 0 = h ∧ u = SB Z a) := by
  refine w_met (by decide +kernel) (Nat.le_of_ble_eq_true rfl) ?_
  intro p e s m below meth c ls S hr hlk hnm hsz hW hl
  have hxe := S.1
  have hcd := S.2.1
  subst hsz
  have hl : lv_has ls 1 [(0, .ref h)] := hl
  refine lv_aload_n hxe hcd dX6_init_0 rfl (lv_at hl 0 rfl) ?_
  refine w_obj S hl.1 g_74 dX6_init_1 (Nat.le_of_ble_eq_true rfl) (Nat.le_of_ble_eq_true rfl) ?_
  refine lv_aload_n hxe hcd dX6_init_4 rfl (lv_at hl 0 rfl) ?_
  refine w_new S hW (T := TX0) (N := 3) (ci := 2) in_RX0 tyX0 tyX0_ok g_75 g_76 g_31 rfl (fs := [.null, .null, .int 0]) (fun j hj => by rcases (show j = 0 ∨ j = 1 ∨ j = 2 by omega) with e | e | e <;> subst e <;> rfl) (Nat.le_of_ble_eq_true rfl) (Nat.le_of_ble_eq_true rfl) dX6_init_5 (fun q5 H hW => ?_)
  have hW : wW Z [(h, .inr (8, [.null, .null, .null])), (q5, .inr (2, [.null, .null, .int 0]))] _ s _ _ := hW
  refine lv_dup hxe hcd dX6_init_8 rfl ?_
  refine w_callv (wr := [(h, .inr (8, [.null, .null, .null]))]) (wc := [(q5, .inr (2, [.null, .null, .int 0]))]) (w_runIN hZ S (wr := [(h, .inr (8, [.null, .null, .null]))]) (wc := [(q5, .inr (2, [.null, .null, .int 0]))]) hW (As := []) (rest := [.ref q5, .ref h]) (t_X0_init l hZ H.size q5) k_X6_9 hl.1 rfl rfl (Nat.le_of_ble_eq_true rfl) ⟨(Nat.le_of_ble_eq_true rfl), (Nat.le_of_ble_eq_true rfl)⟩ ⟨(Nat.le_of_ble_eq_true rfl), (Nat.le_of_ble_eq_true rfl)⟩ dX6_init_9) hW (fun u H locs hp9 hW => ?_)
  obtain ⟨q5_q7, q5_q15, rfl⟩ := hp9
  have hW : wW Z [(h, .inr (8, [.null, .null, .null])), (q5, .inr (2, [.ref q5_q7, .ref q5_q15, .int (nI 0)])), (q5_q7, .inl (zI Z, 8, .inl (fun _ => nI 0))), (q5_q15, .inl (zI Z, 8, .inl (fun _ => nI 0)))] _ s _ _ := hW
  refine w_putF S hW 0 rfl rfl in_RX6 tyX6 tyX6_ok nmX6 0 (by decide) g_148 rfl hnm rfl (tyX6_ok 0 (by decide)) rfl rfl (Nat.le_of_ble_eq_true rfl) (ws' := [(h, .inr (8, [.ref q5, .null, .null])), (q5, .inr (2, [.ref q5_q7, .ref q5_q15, .int (nI 0)])), (q5_q7, .inl (zI Z, 8, .inl (fun _ => nI 0))), (q5_q15, .inl (zI Z, 8, .inl (fun _ => nI 0)))]) rfl dX6_init_12 (fun H locs hW => ?_)
  refine lv_aload_n hxe hcd dX6_init_15 rfl (lv_at hl 0 rfl) ?_
  refine w_new S hW (T := TX5) (N := 4) (ci := 7) in_RX5 tyX5 tyX5_ok g_94 g_95 g_32 rfl (fs := [.null, .null, .null, .null]) (fun j hj => by rcases (show j = 0 ∨ j = 1 ∨ j = 2 ∨ j = 3 by omega) with e | e | e | e <;> subst e <;> rfl) (Nat.le_of_ble_eq_true rfl) (Nat.le_of_ble_eq_true rfl) dX6_init_16 (fun q16 H hW => ?_)
  have hW : wW Z [(h, .inr (8, [.ref q5, .null, .null])), (q5, .inr (2, [.ref q5_q7, .ref q5_q15, .int (nI 0)])), (q5_q7, .inl (zI Z, 8, .inl (fun _ => nI 0))), (q5_q15, .inl (zI Z, 8, .inl (fun _ => nI 0))), (q16, .inr (7, [.null, .null, .null, .null]))] _ s _ _ := hW
  refine lv_dup hxe hcd dX6_init_19 rfl ?_
  refine w_callv (wr := [(h, .inr (8, [.ref q5, .null, .null])), (q5, .inr (2, [.ref q5_q7, .ref q5_q15, .int (nI 0)])), (q5_q7, .inl (zI Z, 8, .inl (fun _ => nI 0))), (q5_q15, .inl (zI Z, 8, .inl (fun _ => nI 0)))]) (wc := [(q16, .inr (7, [.null, .null, .null, .null]))]) (w_runIN hZ S (wr := [(h, .inr (8, [.ref q5, .null, .null])), (q5, .inr (2, [.ref q5_q7, .ref q5_q15, .int (nI 0)])), (q5_q7, .inl (zI Z, 8, .inl (fun _ => nI 0))), (q5_q15, .inl (zI Z, 8, .inl (fun _ => nI 0)))]) (wc := [(q16, .inr (7, [.null, .null, .null, .null]))]) hW (As := []) (rest := [.ref q16, .ref h]) (t_X5_init l hZ H.size q16) k_X6_18 hl.1 rfl rfl (Nat.le_of_ble_eq_true rfl) ⟨(Nat.le_of_ble_eq_true rfl), (Nat.le_of_ble_eq_true rfl)⟩ ⟨(Nat.le_of_ble_eq_true rfl), (Nat.le_of_ble_eq_true rfl)⟩ dX6_init_20) hW (fun u H locs hp20 hW => ?_)
  obtain ⟨q16_q8, q16_q17, q16_q24, q16_q31, rfl⟩ := hp20
  have hW : wW Z [(h, .inr (8, [.ref q5, .null, .null])), (q5, .inr (2, [.ref q5_q7, .ref q5_q15, .int (nI 0)])), (q5_q7, .inl (zI Z, 8, .inl (fun _ => nI 0))), (q5_q15, .inl (zI Z, 8, .inl (fun _ => nI 0))), (q16, .inr (7, [.ref q16_q8, .ref q16_q17, .ref q16_q24, .ref q16_q31])), (q16_q8, .inl (zI Z, 640, .inl (fun _ => nI 0))), (q16_q17, .inl (zI Z, 640, .inl (fun _ => nI 0))), (q16_q24, .inl (zI Z, 4, .inl (fun _ => nI 0))), (q16_q31, .inl (zI Z, 4, .inl (fun _ => nI 0)))] _ s _ _ := hW
  refine w_putF S hW 0 rfl rfl in_RX6 tyX6 tyX6_ok nmX6 1 (by decide) g_151 rfl hnm rfl (tyX6_ok 1 (by decide)) rfl rfl (Nat.le_of_ble_eq_true rfl) (ws' := [(h, .inr (8, [.ref q5, .ref q16, .null])), (q5, .inr (2, [.ref q5_q7, .ref q5_q15, .int (nI 0)])), (q5_q7, .inl (zI Z, 8, .inl (fun _ => nI 0))), (q5_q15, .inl (zI Z, 8, .inl (fun _ => nI 0))), (q16, .inr (7, [.ref q16_q8, .ref q16_q17, .ref q16_q24, .ref q16_q31])), (q16_q8, .inl (zI Z, 640, .inl (fun _ => nI 0))), (q16_q17, .inl (zI Z, 640, .inl (fun _ => nI 0))), (q16_q24, .inl (zI Z, 4, .inl (fun _ => nI 0))), (q16_q31, .inl (zI Z, 4, .inl (fun _ => nI 0)))]) rfl dX6_init_23 (fun H locs hW => ?_)
  refine lv_aload_n hxe hcd dX6_init_26 rfl (lv_at hl 0 rfl) ?_
  refine w_new S hW (T := TX7) (N := 8) (ci := 9) in_RX7 tyX7 tyX7_ok g_113 g_114 g_33 rfl (fs := [.null, .null, .null, .null, .int 0, .int 0, .int 0, .int 0]) (fun j hj => by rcases (show j = 0 ∨ j = 1 ∨ j = 2 ∨ j = 3 ∨ j = 4 ∨ j = 5 ∨ j = 6 ∨ j = 7 by omega) with e | e | e | e | e | e | e | e <;> subst e <;> rfl) (Nat.le_of_ble_eq_true rfl) (Nat.le_of_ble_eq_true rfl) dX6_init_27 (fun q27 H hW => ?_)
  have hW : wW Z [(h, .inr (8, [.ref q5, .ref q16, .null])), (q5, .inr (2, [.ref q5_q7, .ref q5_q15, .int (nI 0)])), (q5_q7, .inl (zI Z, 8, .inl (fun _ => nI 0))), (q5_q15, .inl (zI Z, 8, .inl (fun _ => nI 0))), (q16, .inr (7, [.ref q16_q8, .ref q16_q17, .ref q16_q24, .ref q16_q31])), (q16_q8, .inl (zI Z, 640, .inl (fun _ => nI 0))), (q16_q17, .inl (zI Z, 640, .inl (fun _ => nI 0))), (q16_q24, .inl (zI Z, 4, .inl (fun _ => nI 0))), (q16_q31, .inl (zI Z, 4, .inl (fun _ => nI 0))), (q27, .inr (9, [.null, .null, .null, .null, .int 0, .int 0, .int 0, .int 0]))] _ s _ _ := hW
  refine lv_dup hxe hcd dX6_init_30 rfl ?_
  refine w_callv (wr := [(h, .inr (8, [.ref q5, .ref q16, .null])), (q5, .inr (2, [.ref q5_q7, .ref q5_q15, .int (nI 0)])), (q5_q7, .inl (zI Z, 8, .inl (fun _ => nI 0))), (q5_q15, .inl (zI Z, 8, .inl (fun _ => nI 0))), (q16, .inr (7, [.ref q16_q8, .ref q16_q17, .ref q16_q24, .ref q16_q31])), (q16_q8, .inl (zI Z, 640, .inl (fun _ => nI 0))), (q16_q17, .inl (zI Z, 640, .inl (fun _ => nI 0))), (q16_q24, .inl (zI Z, 4, .inl (fun _ => nI 0))), (q16_q31, .inl (zI Z, 4, .inl (fun _ => nI 0)))]) (wc := [(q27, .inr (9, [.null, .null, .null, .null, .int 0, .int 0, .int 0, .int 0]))]) (w_runIN hZ S (wr := [(h, .inr (8, [.ref q5, .ref q16, .null])), (q5, .inr (2, [.ref q5_q7, .ref q5_q15, .int (nI 0)])), (q5_q7, .inl (zI Z, 8, .inl (fun _ => nI 0))), (q5_q15, .inl (zI Z, 8, .inl (fun _ => nI 0))), (q16, .inr (7, [.ref q16_q8, .ref q16_q17, .ref q16_q24, .ref q16_q31])), (q16_q8, .inl (zI Z, 640, .inl (fun _ => nI 0))), (q16_q17, .inl (zI Z, 640, .inl (fun _ => nI 0))), (q16_q24, .inl (zI Z, 4, .inl (fun _ => nI 0))), (q16_q31, .inl (zI Z, 4, .inl (fun _ => nI 0)))]) (wc := [(q27, .inr (9, [.null, .null, .null, .null, .int 0, .int 0, .int 0, .int 0]))]) hW (As := []) (rest := [.ref q27, .ref h]) (t_X7_init l hZ H.size q27) k_X6_25 hl.1 rfl rfl (Nat.le_of_ble_eq_true rfl) ⟨(Nat.le_of_ble_eq_true rfl), (Nat.le_of_ble_eq_true rfl)⟩ ⟨(Nat.le_of_ble_eq_true rfl), (Nat.le_of_ble_eq_true rfl)⟩ dX6_init_31) hW (fun u H locs hp31 hW => ?_)
  obtain ⟨q27_q6, q27_q13, q27_q20, q27_q28, rfl⟩ := hp31
  have hW : wW Z [(h, .inr (8, [.ref q5, .ref q16, .null])), (q5, .inr (2, [.ref q5_q7, .ref q5_q15, .int (nI 0)])), (q5_q7, .inl (zI Z, 8, .inl (fun _ => nI 0))), (q5_q15, .inl (zI Z, 8, .inl (fun _ => nI 0))), (q16, .inr (7, [.ref q16_q8, .ref q16_q17, .ref q16_q24, .ref q16_q31])), (q16_q8, .inl (zI Z, 640, .inl (fun _ => nI 0))), (q16_q17, .inl (zI Z, 640, .inl (fun _ => nI 0))), (q16_q24, .inl (zI Z, 4, .inl (fun _ => nI 0))), (q16_q31, .inl (zI Z, 4, .inl (fun _ => nI 0))), (q27, .inr (9, [.ref q27_q6, .ref q27_q13, .ref q27_q20, .ref q27_q28, .int (nI 0), .int (nI 0), .int (nI 0), .int (nI 0)])), (q27_q6, .inl (zI Z, 4, .inl (fun _ => nI 0))), (q27_q13, .inl (zI Z, 4, .inl (fun _ => nI 0))), (q27_q20, .inl (zI Z, 4, .inl (fun _ => nI 0))), (q27_q28, .inl (zI Z, 36, .inl (fun _ => nI 0)))] _ s _ _ := hW
  refine w_putF S hW 0 rfl rfl in_RX6 tyX6 tyX6_ok nmX6 2 (by decide) g_154 rfl hnm rfl (tyX6_ok 2 (by decide)) rfl rfl (Nat.le_of_ble_eq_true rfl) (ws' := [(h, .inr (8, [.ref q5, .ref q16, .ref q27])), (q5, .inr (2, [.ref q5_q7, .ref q5_q15, .int (nI 0)])), (q5_q7, .inl (zI Z, 8, .inl (fun _ => nI 0))), (q5_q15, .inl (zI Z, 8, .inl (fun _ => nI 0))), (q16, .inr (7, [.ref q16_q8, .ref q16_q17, .ref q16_q24, .ref q16_q31])), (q16_q8, .inl (zI Z, 640, .inl (fun _ => nI 0))), (q16_q17, .inl (zI Z, 640, .inl (fun _ => nI 0))), (q16_q24, .inl (zI Z, 4, .inl (fun _ => nI 0))), (q16_q31, .inl (zI Z, 4, .inl (fun _ => nI 0))), (q27, .inr (9, [.ref q27_q6, .ref q27_q13, .ref q27_q20, .ref q27_q28, .int (nI 0), .int (nI 0), .int (nI 0), .int (nI 0)])), (q27_q6, .inl (zI Z, 4, .inl (fun _ => nI 0))), (q27_q13, .inl (zI Z, 4, .inl (fun _ => nI 0))), (q27_q20, .inl (zI Z, 4, .inl (fun _ => nI 0))), (q27_q28, .inl (zI Z, 36, .inl (fun _ => nI 0)))]) rfl dX6_init_34 (fun H locs hW => ?_)
  exact w_vret S hr hlk hW ⟨fun o => [h, q5, q5_q7, q5_q15, q16, q16_q8, q16_q17, q16_q24, q16_q31, q27, q27_q6, q27_q13, q27_q20, q27_q28].getD o 0, rfl, rfl⟩ dX6_init_37
set_option maxHeartbeats 4000000 in
set_option maxRecDepth 100000 in
theorem t_X2_init (l : Launch) {Z : ZT} (hZ : zOK Z) (hao : ∀ (A : Nat → Prop) (U : State) (H : Heap), zS Z A U H → va_AO "SongRefinery$State" U) (sz h : Nat) : XI l yX2_init cX2_init 1 1 1 8 [.ref h] Z [(h, .inr (4, [.null, .int 0, .int 0]))] sz (fun u => ∃ (q7 : Nat), u = [(h, .inr (4, [.ref q7, .int (nI 0), .int (nI 0)])), (q7, .inl (zR Z, 8, .inr (.inr (.inr (.inr (fun _ => none))))))]) := by
  refine w_met (by decide +kernel) (Nat.le_of_ble_eq_true rfl) ?_
  intro p e s m below meth c ls S hr hlk hnm hsz hW hl
  have hxe := S.1
  have hcd := S.2.1
  subst hsz
  have hl : lv_has ls 1 [(0, .ref h)] := hl
  refine lv_aload_n hxe hcd dX2_init_0 rfl (lv_at hl 0 rfl) ?_
  refine w_obj S hl.1 g_168 dX2_init_1 (Nat.le_of_ble_eq_true rfl) (Nat.le_of_ble_eq_true rfl) ?_
  refine lv_aload_n hxe hcd dX2_init_4 rfl (lv_at hl 0 rfl) ?_
  refine lv_bipush (v := (nI 8)) hxe hcd dX2_init_5 (by decide) ?_
  refine w_newq S hW g_169 (hao _ _ _ hW.2.2.2.2.2) (N := 8) (by decide) (Nat.le_of_ble_eq_true rfl) (Nat.le_of_ble_eq_true rfl) dX2_init_7 (fun q7 H hW => ?_)
  have hW : wW Z [(h, .inr (4, [.null, .int 0, .int 0])), (q7, .inl (zR Z, 8, .inr (.inr (.inr (.inr (fun _ => none))))))] _ s _ _ := hW
  refine w_putF S hW 0 rfl rfl in_RX2 tyX2 tyX2_ok nmX2 0 (by decide) g_171 rfl hnm rfl (tyX2_ok 0 (by decide)) rfl rfl (Nat.le_of_ble_eq_true rfl) (ws' := [(h, .inr (4, [.ref q7, .int 0, .int 0])), (q7, .inl (zR Z, 8, .inr (.inr (.inr (.inr (fun _ => none))))))]) rfl dX2_init_10 (fun H locs hW => ?_)
  refine lv_aload_n hxe hcd dX2_init_13 rfl (lv_at hl 0 rfl) ?_
  refine lv_iconst (v := (nI 0)) hxe hcd dX2_init_14 (by decide) ?_
  refine w_put S hW 0 rfl rfl in_RX2 tyX2 tyX2_ok nmX2 1 (by decide) g_172 rfl (tyX2_ok 1 (by decide)) rfl rfl (Nat.le_of_ble_eq_true rfl) (ws' := [(h, .inr (4, [.ref q7, .int (nI 0), .int 0])), (q7, .inl (zR Z, 8, .inr (.inr (.inr (.inr (fun _ => none))))))]) rfl dX2_init_15 (fun H locs hW => ?_)
  refine lv_aload_n hxe hcd dX2_init_18 rfl (lv_at hl 0 rfl) ?_
  refine lv_iconst (v := (nI 0)) hxe hcd dX2_init_19 (by decide) ?_
  refine w_put S hW 0 rfl rfl in_RX2 tyX2 tyX2_ok nmX2 2 (by decide) g_173 rfl (tyX2_ok 2 (by decide)) rfl rfl (Nat.le_of_ble_eq_true rfl) (ws' := [(h, .inr (4, [.ref q7, .int (nI 0), .int (nI 0)])), (q7, .inl (zR Z, 8, .inr (.inr (.inr (.inr (fun _ => none))))))]) rfl dX2_init_20 (fun H locs hW => ?_)
  exact w_vret S hr hlk hW ⟨q7, rfl⟩ dX2_init_23
set_option maxHeartbeats 4000000 in
set_option maxRecDepth 100000 in
theorem t_X4_init (l : Launch) {Z : ZT} (hZ : zOK Z) (sz h : Nat) : XI l yX4_init cX4_init 1 1 3 384 [.ref h] Z [(h, .inr (6, [.null, .null, .null]))] sz (fun u => ∃ (q7 q16 q25 : Nat), u = [(h, .inr (6, [.ref q7, .ref q16, .ref q25])), (q7, .inl (zI Z, 64, .inl (fun _ => nI 0))), (q16, .inl (zI Z, 160, .inl (fun _ => nI 0))), (q25, .inl (zI Z, 160, .inl (fun _ => nI 0)))]) := by
  refine w_met (by decide +kernel) (Nat.le_of_ble_eq_true rfl) ?_
  intro p e s m below meth c ls S hr hlk hnm hsz hW hl
  have hxe := S.1
  have hcd := S.2.1
  subst hsz
  have hl : lv_has ls 1 [(0, .ref h)] := hl
  refine lv_aload_n hxe hcd dX4_init_0 rfl (lv_at hl 0 rfl) ?_
  refine w_obj S hl.1 g_187 dX4_init_1 (Nat.le_of_ble_eq_true rfl) (Nat.le_of_ble_eq_true rfl) ?_
  refine lv_aload_n hxe hcd dX4_init_4 rfl (lv_at hl 0 rfl) ?_
  refine lv_bipush (v := (nI 64)) hxe hcd dX4_init_5 (by decide) ?_
  refine w_newa S hW (N := 64) (by decide) (Nat.le_of_ble_eq_true rfl) (Nat.le_of_ble_eq_true rfl) dX4_init_7 (fun q7 H hW => ?_)
  have hW : wW Z [(h, .inr (6, [.null, .null, .null])), (q7, .inl (zI Z, 64, .inl (fun _ => nI 0)))] _ s _ _ := hW
  refine w_putF S hW 0 rfl rfl in_RX4 tyX4 tyX4_ok nmX4 0 (by decide) g_188 rfl hnm rfl (tyX4_ok 0 (by decide)) rfl rfl (Nat.le_of_ble_eq_true rfl) (ws' := [(h, .inr (6, [.ref q7, .null, .null])), (q7, .inl (zI Z, 64, .inl (fun _ => nI 0)))]) rfl dX4_init_9 (fun H locs hW => ?_)
  refine lv_aload_n hxe hcd dX4_init_12 rfl (lv_at hl 0 rfl) ?_
  refine lv_sipush (v := (nI 160)) hxe hcd dX4_init_13 (by decide) ?_
  refine w_newa S hW (N := 160) (by decide) (Nat.le_of_ble_eq_true rfl) (Nat.le_of_ble_eq_true rfl) dX4_init_16 (fun q16 H hW => ?_)
  have hW : wW Z [(h, .inr (6, [.ref q7, .null, .null])), (q7, .inl (zI Z, 64, .inl (fun _ => nI 0))), (q16, .inl (zI Z, 160, .inl (fun _ => nI 0)))] _ s _ _ := hW
  refine w_putF S hW 0 rfl rfl in_RX4 tyX4 tyX4_ok nmX4 1 (by decide) g_189 rfl hnm rfl (tyX4_ok 1 (by decide)) rfl rfl (Nat.le_of_ble_eq_true rfl) (ws' := [(h, .inr (6, [.ref q7, .ref q16, .null])), (q7, .inl (zI Z, 64, .inl (fun _ => nI 0))), (q16, .inl (zI Z, 160, .inl (fun _ => nI 0)))]) rfl dX4_init_18 (fun H locs hW => ?_)
  refine lv_aload_n hxe hcd dX4_init_21 rfl (lv_at hl 0 rfl) ?_
  refine lv_sipush (v := (nI 160)) hxe hcd dX4_init_22 (by decide) ?_
  refine w_newa S hW (N := 160) (by decide) (Nat.le_of_ble_eq_true rfl) (Nat.le_of_ble_eq_true rfl) dX4_init_25 (fun q25 H hW => ?_)
  have hW : wW Z [(h, .inr (6, [.ref q7, .ref q16, .null])), (q7, .inl (zI Z, 64, .inl (fun _ => nI 0))), (q16, .inl (zI Z, 160, .inl (fun _ => nI 0))), (q25, .inl (zI Z, 160, .inl (fun _ => nI 0)))] _ s _ _ := hW
  refine w_putF S hW 0 rfl rfl in_RX4 tyX4 tyX4_ok nmX4 2 (by decide) g_190 rfl hnm rfl (tyX4_ok 2 (by decide)) rfl rfl (Nat.le_of_ble_eq_true rfl) (ws' := [(h, .inr (6, [.ref q7, .ref q16, .ref q25])), (q7, .inl (zI Z, 64, .inl (fun _ => nI 0))), (q16, .inl (zI Z, 160, .inl (fun _ => nI 0))), (q25, .inl (zI Z, 160, .inl (fun _ => nI 0)))]) rfl dX4_init_27 (fun H locs hW => ?_)
  exact w_vret S hr hlk hW ⟨q7, q16, q25, rfl⟩ dX4_init_30
set_option maxHeartbeats 4000000 in
set_option maxRecDepth 100000 in
theorem t_X1_init (l : Launch) {Z : ZT} (hZ : zOK Z) (sz h : Nat) : XI l yX1_init cX1_init 1 1 3 120 [.ref h] Z [(h, .inr (3, [.null, .int 0, .null, .null, .int 0, .int 0]))] sz (fun u => ∃ (q7 q20 q28 : Nat), u = [(h, .inr (3, [.ref q7, .int (nI 0), .ref q20, .ref q28, .int (nI 0), .int (nI 0)])), (q7, .inl (zI Z, 60, .inl (fun _ => nI 0))), (q20, .inl (zI Z, 12, .inl (fun _ => nI 0))), (q28, .inl (zI Z, 48, .inl (fun _ => nI 0)))]) := by
  refine w_met (by decide +kernel) (Nat.le_of_ble_eq_true rfl) ?_
  intro p e s m below meth c ls S hr hlk hnm hsz hW hl
  have hxe := S.1
  have hcd := S.2.1
  subst hsz
  have hl : lv_has ls 1 [(0, .ref h)] := hl
  refine lv_aload_n hxe hcd dX1_init_0 rfl (lv_at hl 0 rfl) ?_
  refine w_obj S hl.1 g_205 dX1_init_1 (Nat.le_of_ble_eq_true rfl) (Nat.le_of_ble_eq_true rfl) ?_
  refine lv_aload_n hxe hcd dX1_init_4 rfl (lv_at hl 0 rfl) ?_
  refine lv_bipush (v := (nI 60)) hxe hcd dX1_init_5 (by decide) ?_
  refine w_newa S hW (N := 60) (by decide) (Nat.le_of_ble_eq_true rfl) (Nat.le_of_ble_eq_true rfl) dX1_init_7 (fun q7 H hW => ?_)
  have hW : wW Z [(h, .inr (3, [.null, .int 0, .null, .null, .int 0, .int 0])), (q7, .inl (zI Z, 60, .inl (fun _ => nI 0)))] _ s _ _ := hW
  refine w_putF S hW 0 rfl rfl in_RX1 tyX1 tyX1_ok nmX1 0 (by decide) g_206 rfl hnm rfl (tyX1_ok 0 (by decide)) rfl rfl (Nat.le_of_ble_eq_true rfl) (ws' := [(h, .inr (3, [.ref q7, .int 0, .null, .null, .int 0, .int 0])), (q7, .inl (zI Z, 60, .inl (fun _ => nI 0)))]) rfl dX1_init_9 (fun H locs hW => ?_)
  refine lv_aload_n hxe hcd dX1_init_12 rfl (lv_at hl 0 rfl) ?_
  refine lv_iconst (v := (nI 0)) hxe hcd dX1_init_13 (by decide) ?_
  refine w_put S hW 0 rfl rfl in_RX1 tyX1 tyX1_ok nmX1 1 (by decide) g_207 rfl (tyX1_ok 1 (by decide)) rfl rfl (Nat.le_of_ble_eq_true rfl) (ws' := [(h, .inr (3, [.ref q7, .int (nI 0), .null, .null, .int 0, .int 0])), (q7, .inl (zI Z, 60, .inl (fun _ => nI 0)))]) rfl dX1_init_14 (fun H locs hW => ?_)
  refine lv_aload_n hxe hcd dX1_init_17 rfl (lv_at hl 0 rfl) ?_
  refine lv_bipush (v := (nI 12)) hxe hcd dX1_init_18 (by decide) ?_
  refine w_newa S hW (N := 12) (by decide) (Nat.le_of_ble_eq_true rfl) (Nat.le_of_ble_eq_true rfl) dX1_init_20 (fun q20 H hW => ?_)
  have hW : wW Z [(h, .inr (3, [.ref q7, .int (nI 0), .null, .null, .int 0, .int 0])), (q7, .inl (zI Z, 60, .inl (fun _ => nI 0))), (q20, .inl (zI Z, 12, .inl (fun _ => nI 0)))] _ s _ _ := hW
  refine w_putF S hW 0 rfl rfl in_RX1 tyX1 tyX1_ok nmX1 2 (by decide) g_208 rfl hnm rfl (tyX1_ok 2 (by decide)) rfl rfl (Nat.le_of_ble_eq_true rfl) (ws' := [(h, .inr (3, [.ref q7, .int (nI 0), .ref q20, .null, .int 0, .int 0])), (q7, .inl (zI Z, 60, .inl (fun _ => nI 0))), (q20, .inl (zI Z, 12, .inl (fun _ => nI 0)))]) rfl dX1_init_22 (fun H locs hW => ?_)
  refine lv_aload_n hxe hcd dX1_init_25 rfl (lv_at hl 0 rfl) ?_
  refine lv_bipush (v := (nI 48)) hxe hcd dX1_init_26 (by decide) ?_
  refine w_newa S hW (N := 48) (by decide) (Nat.le_of_ble_eq_true rfl) (Nat.le_of_ble_eq_true rfl) dX1_init_28 (fun q28 H hW => ?_)
  have hW : wW Z [(h, .inr (3, [.ref q7, .int (nI 0), .ref q20, .null, .int 0, .int 0])), (q7, .inl (zI Z, 60, .inl (fun _ => nI 0))), (q20, .inl (zI Z, 12, .inl (fun _ => nI 0))), (q28, .inl (zI Z, 48, .inl (fun _ => nI 0)))] _ s _ _ := hW
  refine w_putF S hW 0 rfl rfl in_RX1 tyX1 tyX1_ok nmX1 3 (by decide) g_209 rfl hnm rfl (tyX1_ok 3 (by decide)) rfl rfl (Nat.le_of_ble_eq_true rfl) (ws' := [(h, .inr (3, [.ref q7, .int (nI 0), .ref q20, .ref q28, .int 0, .int 0])), (q7, .inl (zI Z, 60, .inl (fun _ => nI 0))), (q20, .inl (zI Z, 12, .inl (fun _ => nI 0))), (q28, .inl (zI Z, 48, .inl (fun _ => nI 0)))]) rfl dX1_init_30 (fun H locs hW => ?_)
  refine lv_aload_n hxe hcd dX1_init_33 rfl (lv_at hl 0 rfl) ?_
  refine lv_iconst (v := (nI 0)) hxe hcd dX1_init_34 (by decide) ?_
  refine w_put S hW 0 rfl rfl in_RX1 tyX1 tyX1_ok nmX1 4 (by decide) g_210 rfl (tyX1_ok 4 (by decide)) rfl rfl (Nat.le_of_ble_eq_true rfl) (ws' := [(h, .inr (3, [.ref q7, .int (nI 0), .ref q20, .ref q28, .int (nI 0), .int 0])), (q7, .inl (zI Z, 60, .inl (fun _ => nI 0))), (q20, .inl (zI Z, 12, .inl (fun _ => nI 0))), (q28, .inl (zI Z, 48, .inl (fun _ => nI 0)))]) rfl dX1_init_35 (fun H locs hW => ?_)
  refine lv_aload_n hxe hcd dX1_init_38 rfl (lv_at hl 0 rfl) ?_
  refine lv_iconst (v := (nI 0)) hxe hcd dX1_init_39 (by decide) ?_
  refine w_put S hW 0 rfl rfl in_RX1 tyX1 tyX1_ok nmX1 5 (by decide) g_212 rfl (tyX1_ok 5 (by decide)) rfl rfl (Nat.le_of_ble_eq_true rfl) (ws' := [(h, .inr (3, [.ref q7, .int (nI 0), .ref q20, .ref q28, .int (nI 0), .int (nI 0)])), (q7, .inl (zI Z, 60, .inl (fun _ => nI 0))), (q20, .inl (zI Z, 12, .inl (fun _ => nI 0))), (q28, .inl (zI Z, 48, .inl (fun _ => nI 0)))]) rfl dX1_init_40 (fun H locs hW => ?_)
  exact w_vret S hr hlk hW ⟨q7, q20, q28, rfl⟩ dX1_init_43
set_option maxHeartbeats 4000000 in
set_option maxRecDepth 100000 in
theorem t_X3_init (l : Launch) {Z : ZT} (hZ : zOK Z) (sz h : Nat) : XI l yX3_init cX3_init 1 1 1 80 [.ref h] Z [(h, .inr (5, [.null, .int 0]))] sz (fun u => ∃ (q7 : Nat), u = [(h, .inr (5, [.ref q7, .int (nI 0)])), (q7, .inl (zI Z, 80, .inl (fun _ => nI 0)))]) := by
  refine w_met (by decide +kernel) (Nat.le_of_ble_eq_true rfl) ?_
  intro p e s m below meth c ls S hr hlk hnm hsz hW hl
  have hxe := S.1
  have hcd := S.2.1
  subst hsz
  have hl : lv_has ls 1 [(0, .ref h)] := hl
  refine lv_aload_n hxe hcd dX3_init_0 rfl (lv_at hl 0 rfl) ?_
  refine w_obj S hl.1 g_232 dX3_init_1 (Nat.le_of_ble_eq_true rfl) (Nat.le_of_ble_eq_true rfl) ?_
  refine lv_aload_n hxe hcd dX3_init_4 rfl (lv_at hl 0 rfl) ?_
  refine lv_bipush (v := (nI 80)) hxe hcd dX3_init_5 (by decide) ?_
  refine w_newa S hW (N := 80) (by decide) (Nat.le_of_ble_eq_true rfl) (Nat.le_of_ble_eq_true rfl) dX3_init_7 (fun q7 H hW => ?_)
  have hW : wW Z [(h, .inr (5, [.null, .int 0])), (q7, .inl (zI Z, 80, .inl (fun _ => nI 0)))] _ s _ _ := hW
  refine w_putF S hW 0 rfl rfl in_RX3 tyX3 tyX3_ok nmX3 0 (by decide) g_233 rfl hnm rfl (tyX3_ok 0 (by decide)) rfl rfl (Nat.le_of_ble_eq_true rfl) (ws' := [(h, .inr (5, [.ref q7, .int 0])), (q7, .inl (zI Z, 80, .inl (fun _ => nI 0)))]) rfl dX3_init_9 (fun H locs hW => ?_)
  refine lv_aload_n hxe hcd dX3_init_12 rfl (lv_at hl 0 rfl) ?_
  refine lv_iconst (v := (nI 0)) hxe hcd dX3_init_13 (by decide) ?_
  refine w_put S hW 0 rfl rfl in_RX3 tyX3 tyX3_ok nmX3 1 (by decide) g_234 rfl (tyX3_ok 1 (by decide)) rfl rfl (Nat.le_of_ble_eq_true rfl) (ws' := [(h, .inr (5, [.ref q7, .int (nI 0)])), (q7, .inl (zI Z, 80, .inl (fun _ => nI 0)))]) rfl dX3_init_14 (fun H locs hW => ?_)
  exact w_vret S hr hlk hW ⟨q7, rfl⟩ dX3_init_17
