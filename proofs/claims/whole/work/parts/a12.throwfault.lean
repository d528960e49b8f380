set_option maxHeartbeats 4000000 in
set_option maxRecDepth 100000 in
theorem t_tf0 (l : Launch) {Z : ZT} (hZ : zOK Z) {α : Type} (L : List α) (A : α → Nat) (E : α → va_E) (sz : Nat)  : XCv l yX9_throwFault cX9_throwFault 1 0 [.int (nI 0)] Z L A E sz := by
  refine r_met (E := E) (by decide +kernel) (Nat.le_of_ble_eq_true rfl) ?_
  intro p e s m below meth c ls S hr hlk hnm hsz hW hl
  have hxe := S.1
  have hcd := S.2.1
  subst hsz
  have hl : lv_has ls 1 [(0, .int (nI 0))] := hl
  refine lv_iload_n hxe hcd dX9_throwFault_0 rfl (lv_at hl 0 rfl) ?_
  refine lv_tableOut (tgt := 76) hxe hcd dX9_throwFault_1 (Or.inl (by decide)) (by decide) ?_
  exact r_vret0 S hr hlk hW dX9_throwFault_76
set_option maxHeartbeats 4000000 in
theorem t_tf1 (l : Launch) (hl0 : l.stackTraces = false) {Z : ZT} (hZ : zOK Z) (hx : ZX Z) {α : Type} (L : List α) (A : α → Nat) (E : α → va_E) (sz : Nat) : XT l 1 Z L A E sz := by
  refine x_met (E := E) (by decide +kernel) (Nat.le_of_ble_eq_true rfl) ?_
  intro p e s m below meth c ls S hr hlk hnt hsz hW hl
  have hxe := S.1
  have hcd := S.2.1
  subst hsz
  have hl : lv_has ls 1 [(0, .int (nI 1))] := hl
  refine lv_iload_n hxe hcd dX9_throwFault_0 rfl (lv_at hl 0 rfl) ?_
  refine lv_tableIn (tgt := 32) hxe hcd dX9_throwFault_1 (by decide) (by decide) (by first | rfl | decide) (by decide) ?_
  exact x_throwSW S hZ hl0 hx hnt hl.1 hlk hW (ik := 314) (is := 349) (ic := 318) (X := "java/lang/IndexOutOfBoundsException") (text := "there is no such song, tank or position") (by decide +kernel) g_558 g_80 (by decide) tw_1 ot_1 dX9_throwFault_32 dX9_throwFault_35 dX9_throwFault_36 dX9_throwFault_39 dX9_throwFault_42 (Nat.le_of_ble_eq_true rfl) (Nat.le_of_ble_eq_true rfl) (Nat.le_of_ble_eq_true rfl) (Nat.le_of_ble_eq_true rfl) (Nat.le_of_ble_eq_true rfl) (Nat.le_of_ble_eq_true rfl) (fun t h1 h2 => ⟨(), True.intro, ⟨rfl, h1⟩, h2⟩)
set_option maxHeartbeats 4000000 in
theorem t_tf2 (l : Launch) (hl0 : l.stackTraces = false) {Z : ZT} (hZ : zOK Z) (hx : ZX Z) {α : Type} (L : List α) (A : α → Nat) (E : α → va_E) (sz : Nat) : XT l 2 Z L A E sz := by
  refine x_met (E := E) (by decide +kernel) (Nat.le_of_ble_eq_true rfl) ?_
  intro p e s m below meth c ls S hr hlk hnt hsz hW hl
  have hxe := S.1
  have hcd := S.2.1
  subst hsz
  have hl : lv_has ls 1 [(0, .int (nI 2))] := hl
  refine lv_iload_n hxe hcd dX9_throwFault_0 rfl (lv_at hl 0 rfl) ?_
  refine lv_tableIn (tgt := 43) hxe hcd dX9_throwFault_1 (by decide) (by decide) (by first | rfl | decide) (by decide) ?_
  exact x_throwSW S hZ hl0 hx hnt hl.1 hlk hW (ik := 277) (is := 351) (ic := 281) (X := "java/lang/IllegalArgumentException") (text := "a parameter is out of range") (by decide +kernel) g_629 g_81 (by decide) tw_2 ot_2 dX9_throwFault_43 dX9_throwFault_46 dX9_throwFault_47 dX9_throwFault_50 dX9_throwFault_53 (Nat.le_of_ble_eq_true rfl) (Nat.le_of_ble_eq_true rfl) (Nat.le_of_ble_eq_true rfl) (Nat.le_of_ble_eq_true rfl) (Nat.le_of_ble_eq_true rfl) (Nat.le_of_ble_eq_true rfl) (fun t h1 h2 => ⟨(), True.intro, ⟨rfl, h1⟩, h2⟩)
set_option maxHeartbeats 4000000 in
theorem t_tf3 (l : Launch) (hl0 : l.stackTraces = false) {Z : ZT} (hZ : zOK Z) (hx : ZX Z) {α : Type} (L : List α) (A : α → Nat) (E : α → va_E) (sz : Nat) : XT l 3 Z L A E sz := by
  refine x_met (E := E) (by decide +kernel) (Nat.le_of_ble_eq_true rfl) ?_
  intro p e s m below meth c ls S hr hlk hnt hsz hW hl
  have hxe := S.1
  have hcd := S.2.1
  subst hsz
  have hl : lv_has ls 1 [(0, .int (nI 3))] := hl
  refine lv_iload_n hxe hcd dX9_throwFault_0 rfl (lv_at hl 0 rfl) ?_
  refine lv_tableIn (tgt := 54) hxe hcd dX9_throwFault_1 (by decide) (by decide) (by first | rfl | decide) (by decide) ?_
  exact x_throwSW S hZ hl0 hx hnt hl.1 hlk hW (ik := 292) (is := 353) (ic := 296) (X := "java/lang/IllegalStateException") (text := "there is no more room") (by decide +kernel) g_645 g_82 (by decide) tw_3 ot_3 dX9_throwFault_54 dX9_throwFault_57 dX9_throwFault_58 dX9_throwFault_61 dX9_throwFault_64 (Nat.le_of_ble_eq_true rfl) (Nat.le_of_ble_eq_true rfl) (Nat.le_of_ble_eq_true rfl) (Nat.le_of_ble_eq_true rfl) (Nat.le_of_ble_eq_true rfl) (Nat.le_of_ble_eq_true rfl) (fun t h1 h2 => ⟨(), True.intro, ⟨rfl, h1⟩, h2⟩)
set_option maxHeartbeats 4000000 in
theorem t_tf4 (l : Launch) (hl0 : l.stackTraces = false) {Z : ZT} (hZ : zOK Z) (hx : ZX Z) {α : Type} (L : List α) (A : α → Nat) (E : α → va_E) (sz : Nat) : XT l 4 Z L A E sz := by
  refine x_met (E := E) (by decide +kernel) (Nat.le_of_ble_eq_true rfl) ?_
  intro p e s m below meth c ls S hr hlk hnt hsz hW hl
  have hxe := S.1
  have hcd := S.2.1
  subst hsz
  have hl : lv_has ls 1 [(0, .int (nI 4))] := hl
  refine lv_iload_n hxe hcd dX9_throwFault_0 rfl (lv_at hl 0 rfl) ?_
  refine lv_tableIn (tgt := 65) hxe hcd dX9_throwFault_1 (by decide) (by decide) (by first | rfl | decide) (by decide) ?_
  exact x_throwNW S hZ hl0 hx hnt hl.1 hlk hW (is := 355) (text := "there is no such sample, note or frame") (by decide) dX9_throwFault_65 dX9_throwFault_68 dX9_throwFault_69 dX9_throwFault_72 dX9_throwFault_75 (Nat.le_of_ble_eq_true rfl) (Nat.le_of_ble_eq_true rfl) (Nat.le_of_ble_eq_true rfl) (Nat.le_of_ble_eq_true rfl) (Nat.le_of_ble_eq_true rfl) (Nat.le_of_ble_eq_true rfl) (fun t h1 h2 => ⟨(), True.intro, ⟨rfl, h1⟩, h2⟩)
