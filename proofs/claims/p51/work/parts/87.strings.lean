set_option maxHeartbeats 4000000 in
set_option maxRecDepth 100000 in
theorem t_J0_coder_7d493 (l : Launch) {Z : ZT} (hZ : zOK Z) {α : Type} (L : List α) (A : α → Nat) (E : α → va_E) (sz : Nat) {k kv n : Nat} {f : Nat → Int32} (hs : ∀ (A : Nat → Prop) (U : State) (H : Heap), zS Z A U H → SO k kv n f A U H) (hj : ∀ (A : Nat → Prop) (U : State) (H : Heap), zS Z A U H → JST A U H) : XCi l yJ0_coder_7d493 cJ0_coder_7d493 1 (some .byte) 0 [.ref k] Z L A E sz (fun r => r = nI 0) := by
  refine r_metF (E := E) (by decide +kernel) (Nat.le_of_ble_eq_true rfl) ?_
  intro p e s m below meth c ls S hr hlk hnm hsz hW hl
  have hxe := S.1
  have hcd := S.2.1
  subst hsz
  have hl : lv_has ls 1 [(0, .ref k)] := hl
  refine r_gets S hW (hj _ _ _ hW.2.2.2.2.2).1 g_880 dJ0_coder_7d493_0 ?_
  refine r_as (y := (nI 1)) (by decide) ?_
  refine lv_if_eq (tgt := 13) hxe hcd dJ0_coder_7d493_3 (by decide) (fun h => absurd h (by decide)) (fun _ => ?_)
  refine lv_aload_n hxe hcd dJ0_coder_7d493_6 rfl (lv_at hl 0 rfl) ?_
  refine r_getO S hW (hs _ _ _ hW.2.2.2.2.2).2.1 g_1361 dJ0_coder_7d493_7 ?_
  refine r_as (y := (nI 0)) (by decide) ?_
  refine lv_goto (tgt := 14) hxe hcd dJ0_coder_7d493_10 (by decide) ?_
  refine r_zret0 S hr hlk hW (by decide +kernel) ?_ dJ0_coder_7d493_14
  rfl
set_option maxHeartbeats 4000000 in
set_option maxRecDepth 100000 in
theorem t_J0_isLatin1_aae02 (l : Launch) {Z : ZT} (hZ : zOK Z) {α : Type} (L : List α) (A : α → Nat) (E : α → va_E) (sz : Nat) {k kv n : Nat} {f : Nat → Int32} (hs : ∀ (A : Nat → Prop) (U : State) (H : Heap), zS Z A U H → SO k kv n f A U H) (hj : ∀ (A : Nat → Prop) (U : State) (H : Heap), zS Z A U H → JST A U H) : XCi l yJ0_isLatin1_aae02 cJ0_isLatin1_aae02 1 (some .boolean) 0 [.ref k] Z L A E sz (fun r => r = nI 1) := by
  refine r_metF (E := E) (by decide +kernel) (Nat.le_of_ble_eq_true rfl) ?_
  intro p e s m below meth c ls S hr hlk hnm hsz hW hl
  have hxe := S.1
  have hcd := S.2.1
  subst hsz
  have hl : lv_has ls 1 [(0, .ref k)] := hl
  refine r_gets S hW (hj _ _ _ hW.2.2.2.2.2).1 g_880 dJ0_isLatin1_aae02_0 ?_
  refine r_as (y := (nI 1)) (by decide) ?_
  refine lv_if_eq (tgt := 17) hxe hcd dJ0_isLatin1_aae02_3 (by decide) (fun h => absurd h (by decide)) (fun _ => ?_)
  refine lv_aload_n hxe hcd dJ0_isLatin1_aae02_6 rfl (lv_at hl 0 rfl) ?_
  refine r_getO S hW (hs _ _ _ hW.2.2.2.2.2).2.1 g_1361 dJ0_isLatin1_aae02_7 ?_
  refine r_as (y := (nI 0)) (by decide) ?_
  refine lv_if_ne (tgt := 17) hxe hcd dJ0_isLatin1_aae02_10 (by decide) (fun h => absurd h (by decide)) (fun _ => ?_)
  refine lv_iconst (v := (nI 1)) hxe hcd dJ0_isLatin1_aae02_13 (by decide) ?_
  refine lv_goto (tgt := 18) hxe hcd dJ0_isLatin1_aae02_14 (by decide) ?_
  refine r_zret0 S hr hlk hW (by decide +kernel) ?_ dJ0_isLatin1_aae02_18
  rfl
set_option maxHeartbeats 4000000 in
set_option maxRecDepth 100000 in
theorem t_J0_length_8abf5 (l : Launch) {Z : ZT} (hZ : zOK Z) {α : Type} (L : List α) (A : α → Nat) (E : α → va_E) (sz : Nat) {k kv n : Nat} {f : Nat → Int32} (hs : ∀ (A : Nat → Prop) (U : State) (H : Heap), zS Z A U H → SO k kv n f A U H) (hj : ∀ (A : Nat → Prop) (U : State) (H : Heap), zS Z A U H → JST A U H) (hn : n < 2 ^ 31) : XCi l yJ0_length_8abf5 cJ0_length_8abf5 1 (some .int) 1 [.ref k] Z L A E sz (fun r => r = nI n) := by
  refine r_metF (E := E) (by decide +kernel) (Nat.le_of_ble_eq_true rfl) ?_
  intro p e s m below meth c ls S hr hlk hnm hsz hW hl
  have hxe := S.1
  have hcd := S.2.1
  subst hsz
  have hl : lv_has ls 1 [(0, .ref k)] := hl
  refine lv_aload_n hxe hcd dJ0_length_8abf5_0 rfl (lv_at hl 0 rfl) ?_
  refine r_getO S hW (hs _ _ _ hW.2.2.2.2.2).2.2.1 g_1360 dJ0_length_8abf5_1 ?_
  refine r_tlen S hW (hs _ _ _ hW.2.2.2.2.2).2.2.2 dJ0_length_8abf5_4 ?_
  refine lv_aload_n hxe hcd dJ0_length_8abf5_5 rfl (lv_at hl 0 rfl) ?_
  refine r_calli0 (r_runV hZ S hW (As := []) (rest := [.int (nI n)]) (t_J0_coder_7d493 l hZ L A E s.heap.size hs hj) k_J0_335 (va_Orecv (hs _ _ _ hW.2.2.2.2.2).1 hW.2.2.1) (hl.1) rfl rfl (Nat.le_of_ble_eq_true rfl) ⟨Nat.le_of_ble_eq_true rfl, Nat.le_of_ble_eq_true rfl⟩ ⟨Nat.le_of_ble_eq_true rfl, Nat.le_of_ble_eq_true rfl⟩ dJ0_length_8abf5_6) hW (fun r6 H locs hp6 hW => ?_)
  have hp6 := hp6.symm
  subst hp6
  refine lv_ishr hxe hcd dJ0_length_8abf5_9 ?_
  refine r_as (y := (nI n)) (sc_shr0 hn) ?_
  refine r_iret0 S hr hlk hW ?_ dJ0_length_8abf5_10
  rfl
set_option maxHeartbeats 4000000 in
set_option maxRecDepth 100000 in
theorem t_J0_isEmpty_aae02 (l : Launch) {Z : ZT} (hZ : zOK Z) {α : Type} (L : List α) (A : α → Nat) (E : α → va_E) (sz : Nat) {k kv n : Nat} {f : Nat → Int32} (hs : ∀ (A : Nat → Prop) (U : State) (H : Heap), zS Z A U H → SO k kv n f A U H) (hj : ∀ (A : Nat → Prop) (U : State) (H : Heap), zS Z A U H → JST A U H) (hn : n < 2 ^ 31) : XCi l yJ0_isEmpty_aae02 cJ0_isEmpty_aae02 1 (some .boolean) 0 [.ref k] Z L A E sz (fun r => BP r (n = 0)) := by
  refine r_metF (E := E) (by decide +kernel) (Nat.le_of_ble_eq_true rfl) ?_
  intro p e s m below meth c ls S hr hlk hnm hsz hW hl
  have hxe := S.1
  have hcd := S.2.1
  subst hsz
  have hl : lv_has ls 1 [(0, .ref k)] := hl
  refine lv_aload_n hxe hcd dJ0_isEmpty_aae02_0 rfl (lv_at hl 0 rfl) ?_
  refine r_getO S hW (hs _ _ _ hW.2.2.2.2.2).2.2.1 g_1360 dJ0_isEmpty_aae02_1 ?_
  refine r_tlen S hW (hs _ _ _ hW.2.2.2.2.2).2.2.2 dJ0_isEmpty_aae02_4 ?_
  refine n_ifne S (a := n) (by omega) dJ0_isEmpty_aae02_5 (tgt := 12) (by decide) (fun c5 => ?_) (fun c5 => ?_)
  · refine lv_iconst (v := (nI 0)) hxe hcd dJ0_isEmpty_aae02_12 (by decide) ?_
    refine r_zret0 S hr hlk hW (by decide +kernel) ?_ dJ0_isEmpty_aae02_13
    exact BP_f c5
  · refine lv_iconst (v := (nI 1)) hxe hcd dJ0_isEmpty_aae02_8 (by decide) ?_
    refine lv_goto (tgt := 13) hxe hcd dJ0_isEmpty_aae02_9 (by decide) ?_
    refine r_zret0 S hr hlk hW (by decide +kernel) ?_ dJ0_isEmpty_aae02_13
    exact BP_t c5
set_option maxHeartbeats 4000000 in
set_option maxRecDepth 100000 in
theorem t_J3_checkIndex_8e157 (l : Launch) {Z : ZT} (hZ : zOK Z) {α : Type} (L : List α) (A : α → Nat) (E : α → va_E) (sz : Nat) {i n t9 : Nat} (hi : i < n) (hn : n < 2 ^ 31) : XCi l yJ3_checkIndex_8e157 cJ3_checkIndex_8e157 3 (some .int) 0 [.int (nI i), .int (nI n), .ref t9] Z L A E sz (fun r => r = nI i) := by
  refine r_metF (E := E) (by decide +kernel) (Nat.le_of_ble_eq_true rfl) ?_
  intro p e s m below meth c ls S hr hlk hnm hsz hW hl
  have hxe := S.1
  have hcd := S.2.1
  subst hsz
  have hl : lv_has ls 3 [(0, .int (nI i)), (1, .int (nI n)), (2, .ref t9)] := hl
  refine lv_iload_n hxe hcd dJ3_checkIndex_8e157_0 rfl (lv_at hl 0 rfl) ?_
  refine n_iflt S (a := i) (by omega) dJ3_checkIndex_8e157_1 (tgt := 9) (by decide) ?_
  refine lv_iload_n hxe hcd dJ3_checkIndex_8e157_4 rfl (lv_at hl 0 rfl) ?_
  refine lv_iload_n hxe hcd dJ3_checkIndex_8e157_5 rfl (lv_at hl 1 rfl) ?_
  refine n_lt S (a := i) (b := n) (by omega) (by omega) dJ3_checkIndex_8e157_6 (tgt := 16) (by decide) (fun c6 => ?_) (fun c6 => absurd hi c6)
  refine lv_iload_n hxe hcd dJ3_checkIndex_8e157_16 rfl (lv_at hl 0 rfl) ?_
  refine r_iret0 S hr hlk hW ?_ dJ3_checkIndex_8e157_17
  rfl
set_option maxHeartbeats 4000000 in
set_option maxRecDepth 100000 in
theorem t_J3_null (l : Launch) {Z : ZT} (hZ : zOK Z) {α : Type} (L : List α) (A : α → Nat) (E : α → va_E) (sz : Nat) {i n : Nat} (hi : i < n) (hn : n < 2 ^ 31) : XCi l yJ3_checkIndex_8e157 cJ3_checkIndex_8e157 3 (some .int) 0 [.int (nI i), .int (nI n), .null] Z L A E sz (fun r => r = nI i) := by
  refine r_metF (E := E) (by decide +kernel) (Nat.le_of_ble_eq_true rfl) ?_
  intro p e s m below meth c ls S hr hlk hnm hsz hW hl
  have hxe := S.1
  have hcd := S.2.1
  subst hsz
  have hl : lv_has ls 3 [(0, .int (nI i)), (1, .int (nI n)), (2, .null)] := hl
  refine lv_iload_n hxe hcd dJ3_checkIndex_8e157_0 rfl (lv_at hl 0 rfl) ?_
  refine n_iflt S (a := i) (by omega) dJ3_checkIndex_8e157_1 (tgt := 9) (by decide) ?_
  refine lv_iload_n hxe hcd dJ3_checkIndex_8e157_4 rfl (lv_at hl 0 rfl) ?_
  refine lv_iload_n hxe hcd dJ3_checkIndex_8e157_5 rfl (lv_at hl 1 rfl) ?_
  refine n_lt S (a := i) (b := n) (by omega) (by omega) dJ3_checkIndex_8e157_6 (tgt := 16) (by decide) (fun c6 => ?_) (fun c6 => absurd hi c6)
  refine lv_iload_n hxe hcd dJ3_checkIndex_8e157_16 rfl (lv_at hl 0 rfl) ?_
  refine r_iret0 S hr hlk hW ?_ dJ3_checkIndex_8e157_17
  rfl
set_option maxHeartbeats 4000000 in
set_option maxRecDepth 100000 in
theorem t_J0_checkIndex_df160 (l : Launch) {Z : ZT} (hZ : zOK Z) {α : Type} (L : List α) (A : α → Nat) (E : α → va_E) (sz : Nat) {i n : Nat} (hi : i < n) (hn : n < 2 ^ 31) (hj : ∀ (A : Nat → Prop) (U : State) (H : Heap), zS Z A U H → JST A U H) : XCv l yJ0_checkIndex_df160 cJ0_checkIndex_df160 2 1 [.int (nI i), .int (nI n)] Z L A E sz := by
  refine r_metF (E := E) (by decide +kernel) (Nat.le_of_ble_eq_true rfl) ?_
  intro p e s m below meth c ls S hr hlk hnm hsz hW hl
  have hxe := S.1
  have hcd := S.2.1
  subst hsz
  have hl : lv_has ls 2 [(0, .int (nI i)), (1, .int (nI n))] := hl
  refine lv_iload_n hxe hcd dJ0_checkIndex_df160_0 rfl (lv_at hl 0 rfl) ?_
  refine lv_iload_n hxe hcd dJ0_checkIndex_df160_1 rfl (lv_at hl 1 rfl) ?_
  rcases (hj _ _ _ hW.2.2.2.2.2).2 with hq9 | ⟨t9, hq9⟩
  · refine r_gets S hW hq9 g_901 dJ0_checkIndex_df160_2 ?_
    refine r_calli0 (r_runS hZ S hW (As := [.int (nI i), .int (nI n), .null]) (rest := []) (t_J3_null l hZ L A E s.heap.size hi hn) k_J0_1059 (hl.1) rfl rfl (Nat.le_of_ble_eq_true rfl) ⟨Nat.le_of_ble_eq_true rfl, Nat.le_of_ble_eq_true rfl⟩ ⟨Nat.le_of_ble_eq_true rfl, Nat.le_of_ble_eq_true rfl⟩ dJ0_checkIndex_df160_5) hW (fun r5 H locs hp5 hW => ?_)
    have hp5 := hp5.symm
    subst hp5
    refine lv_pop hxe hcd dJ0_checkIndex_df160_8 rfl ?_
    exact r_vret0 S hr hlk hW dJ0_checkIndex_df160_9
  · refine r_gets S hW hq9 g_901 dJ0_checkIndex_df160_2 ?_
    refine r_calli0 (r_runS hZ S hW (As := [.int (nI i), .int (nI n), .ref t9]) (rest := []) (t_J3_checkIndex_8e157 l hZ L A E s.heap.size hi hn) k_J0_1059 (hl.1) rfl rfl (Nat.le_of_ble_eq_true rfl) ⟨Nat.le_of_ble_eq_true rfl, Nat.le_of_ble_eq_true rfl⟩ ⟨Nat.le_of_ble_eq_true rfl, Nat.le_of_ble_eq_true rfl⟩ dJ0_checkIndex_df160_5) hW (fun r5 H locs hp5 hW => ?_)
    have hp5 := hp5.symm
    subst hp5
    refine lv_pop hxe hcd dJ0_checkIndex_df160_8 rfl ?_
    exact r_vret0 S hr hlk hW dJ0_checkIndex_df160_9
set_option maxHeartbeats 4000000 in
set_option maxRecDepth 100000 in
theorem t_J1_charAt_3b067 (l : Launch) {Z : ZT} (hZ : zOK Z) {α : Type} (L : List α) (A : α → Nat) (E : α → va_E) (sz : Nat) {kv n i : Nat} {f : Nat → Nat} (hv : ∀ (A : Nat → Prop) (U : State) (H : Heap), zS Z A U H → va_T .byte kv n (fun j => .int (nI (f j))) A U H) (hi : i < n) (hn : n < 2 ^ 31) (hf : f i < 128) (hj : ∀ (A : Nat → Prop) (U : State) (H : Heap), zS Z A U H → JST A U H) : XCi l yJ1_charAt_3b067 cJ1_charAt_3b067 2 (some .char) 2 [.ref kv, .int (nI i)] Z L A E sz (fun r => r = nI (f i)) := by
  refine r_metF (E := E) (by decide +kernel) (Nat.le_of_ble_eq_true rfl) ?_
  intro p e s m below meth c ls S hr hlk hnm hsz hW hl
  have hxe := S.1
  have hcd := S.2.1
  subst hsz
  have hl : lv_has ls 2 [(0, .ref kv), (1, .int (nI i))] := hl
  refine lv_iload_n hxe hcd dJ1_charAt_3b067_0 rfl (lv_at hl 1 rfl) ?_
  refine lv_aload_n hxe hcd dJ1_charAt_3b067_1 rfl (lv_at hl 0 rfl) ?_
  refine r_tlen S hW (hv _ _ _ hW.2.2.2.2.2) dJ1_charAt_3b067_2 ?_
  refine r_callv0 (r_runS hZ S hW (As := [.int (nI i), .int (nI n)]) (rest := []) (t_J0_checkIndex_df160 l hZ L A E s.heap.size (i := i) (n := n) (by omega) hn hj) k_J1_9 (hl.1) rfl rfl (Nat.le_of_ble_eq_true rfl) ⟨Nat.le_of_ble_eq_true rfl, Nat.le_of_ble_eq_true rfl⟩ ⟨Nat.le_of_ble_eq_true rfl, Nat.le_of_ble_eq_true rfl⟩ dJ1_charAt_3b067_3) hW (fun H locs hW => ?_)
  refine lv_aload_n hxe hcd dJ1_charAt_3b067_6 rfl (lv_at hl 0 rfl) ?_
  refine lv_iload_n hxe hcd dJ1_charAt_3b067_7 rfl (lv_at hl 1 rfl) ?_
  refine r_tb S hW (f := fun j => nI (f j)) (hv _ _ _ hW.2.2.2.2.2) hi hn dJ1_charAt_3b067_8 ?_
  refine lv_sipush (v := (nI 255)) hxe hcd dJ1_charAt_3b067_9 (by decide) ?_
  refine lv_iand hxe hcd dJ1_charAt_3b067_12 ?_
  refine r_as (y := (nI (f i))) (and255 (by omega)) ?_
  refine lv_i2c (v := (nI (f i))) hxe hcd dJ1_charAt_3b067_13 (i2c_n (by omega)) ?_
  refine r_zret0 S hr hlk hW (nar_n (by omega)) ?_ dJ1_charAt_3b067_14
  rfl
set_option maxHeartbeats 4000000 in
set_option maxRecDepth 100000 in
theorem t_J0_charAt_5068e (l : Launch) {Z : ZT} (hZ : zOK Z) {α : Type} (L : List α) (A : α → Nat) (E : α → va_E) (sz : Nat) {k kv n i : Nat} {f : Nat → Nat} (hs : ∀ (A : Nat → Prop) (U : State) (H : Heap), zS Z A U H → SO k kv n (fun j => nI (f j)) A U H) (hi : i < n) (hn : n < 2 ^ 31) (hf : f i < 128) (hj : ∀ (A : Nat → Prop) (U : State) (H : Heap), zS Z A U H → JST A U H) : XCi l yJ0_charAt_5068e cJ0_charAt_5068e 2 (some .char) 3 [.ref k, .int (nI i)] Z L A E sz (fun r => r = nI (f i)) := by
  refine r_metF (E := E) (by decide +kernel) (Nat.le_of_ble_eq_true rfl) ?_
  intro p e s m below meth c ls S hr hlk hnm hsz hW hl
  have hxe := S.1
  have hcd := S.2.1
  subst hsz
  have hl : lv_has ls 2 [(0, .ref k), (1, .int (nI i))] := hl
  refine lv_aload_n hxe hcd dJ0_charAt_5068e_0 rfl (lv_at hl 0 rfl) ?_
  refine r_calli0 (r_runV hZ S hW (As := []) (rest := []) (t_J0_isLatin1_aae02 l hZ L A E s.heap.size hs hj) k_J0_492 (va_Orecv (hs _ _ _ hW.2.2.2.2.2).1 hW.2.2.1) (hl.1) rfl rfl (Nat.le_of_ble_eq_true rfl) ⟨Nat.le_of_ble_eq_true rfl, Nat.le_of_ble_eq_true rfl⟩ ⟨Nat.le_of_ble_eq_true rfl, Nat.le_of_ble_eq_true rfl⟩ dJ0_charAt_5068e_1) hW (fun r1 H locs hp1 hW => ?_)
  have hp1 := hp1.symm
  subst hp1
  refine lv_if_eq (tgt := 16) hxe hcd dJ0_charAt_5068e_4 (by decide) (fun h => absurd h (by decide)) (fun _ => ?_)
  refine lv_aload_n hxe hcd dJ0_charAt_5068e_7 rfl (lv_at hl 0 rfl) ?_
  refine r_getO S hW (hs _ _ _ hW.2.2.2.2.2).2.2.1 g_1360 dJ0_charAt_5068e_8 ?_
  refine lv_iload_n hxe hcd dJ0_charAt_5068e_11 rfl (lv_at hl 1 rfl) ?_
  refine r_calli0 (r_runS hZ S hW (As := [.ref kv, .int (nI i)]) (rest := []) (t_J1_charAt_3b067 l hZ L A E H.size (n := n) (i := i) (f := f) (fun A U H h => (hs A U H h).2.2.2) hi hn hf hj) k_J0_495 (hl.1) rfl rfl (Nat.le_of_ble_eq_true rfl) ⟨Nat.le_of_ble_eq_true rfl, Nat.le_of_ble_eq_true rfl⟩ ⟨Nat.le_of_ble_eq_true rfl, Nat.le_of_ble_eq_true rfl⟩ dJ0_charAt_5068e_12) hW (fun r12 H locs hp12 hW => ?_)
  have hp12 := hp12.symm
  subst hp12
  refine r_zret0 S hr hlk hW (nar_n (by omega)) ?_ dJ0_charAt_5068e_15
  rfl
