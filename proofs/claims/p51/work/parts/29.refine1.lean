set_option maxHeartbeats 4000000 in
set_option maxRecDepth 100000 in
theorem t_J7_fill_53178 (l : Launch) {Z : ZT} (hZ : zOK Z) (A : Nat × Nat → Nat) (g : Nat → Bool) (μ : CM) (sz : Nat) {b o n : Nat} (hE : aLen o = some n) (hL : (b, o) ∈ ids g) (v : Int32) : XMv l yJ7_fill_53178 cJ7_fill_53178 4 0 [.ref (A (b, o)), .int v] Z (ids g) A (cE Z A g) μ sz (fun u => u = up2 μ b o (filR n (μ b o) v)) := by
  refine r_metF (E := (cE Z A g μ)) (by decide +kernel) (Nat.le_of_ble_eq_true rfl) ?_
  intro p e s m below meth c ls S hr hlk hnm hsz hW hl
  have hxe := S.1
  have hcd := S.2.1
  subst hsz
  have hl : lv_has ls 4 [(0, .ref (A (b, o))), (1, .int v)] := hl
  refine lv_iconst (v := (nI 0)) hxe hcd dJ7_fill_53178_0 (by decide) ?_
  refine lv_istore_n (lv' := [(2, .int (nI 0)), (0, .ref (A (b, o))), (1, .int v)]) hxe hcd dJ7_fill_53178_1 rfl hl (by decide) rfl (fun ls hl => ?_)
  refine lv_aload_n hxe hcd dJ7_fill_53178_2 rfl (lv_at hl 1 rfl) ?_
  refine r_alen S hW (x := (b, o)) hL (cE_arr hE) dJ7_fill_53178_3 ?_
  refine lv_istore_n (lv' := [(3, .int (nI n)), (2, .int (nI 0)), (0, .ref (A (b, o))), (1, .int v)]) hxe hcd dJ7_fill_53178_4 rfl hl (by decide) rfl (fun ls hl => ?_)
  have hn := aLen_lt hE
  have loop5 : ∀ (n_ : Nat) (i : Nat), n - i < n_ → (i ≤ n) → ∀ (H : Heap) (locs : List Loc) (ls : Array Slot), wX Z (ids g) A (cE Z A g (up2 μ b o (filR i (μ b o) v))) (fA (ids g) A (cE Z A g μ) s.heap.size) s H locs → lv_has ls 4 [(0, .ref (A (b, o))), (1, .int v), (2, .int (nI i)), (3, .int (nI n))] → W p l e (rmD 0 0 0) s m ([.ref (A (b, o)), .int v] : List Value).toArray below meth c H locs 0 0 (MQ below (va_Qv (fun u => u = up2 μ b o (filR n (μ b o) v)) (fun u t => qB Z (ids g) A ((cE Z A g) u) (fA (ids g) A (cE Z A g μ) s.heap.size) t) (fA (ids g) A (cE Z A g μ) s.heap.size)) ([.ref (A (b, o)), .int v] : List Value).toArray s 0 0 (fA (ids g) A (cE Z A g μ) s.heap.size)) (F0 m 5 ls []) := by
    intro n_
    induction n_ with
    | zero => intro i hm; exact absurd hm (Nat.not_lt_zero _)
    | succ n_ ih5 =>
      intro i hm hi H locs ls hW hl
      refine lv_iload_n hxe hcd dJ7_fill_53178_5 rfl (lv_at hl 2 rfl) ?_
      refine lv_iload_n hxe hcd dJ7_fill_53178_6 rfl (lv_at hl 3 rfl) ?_
      refine n_ge S (a := i) (b := n) (by omega) (by omega) dJ7_fill_53178_7 (tgt := 20) (by decide) (fun c7 => ?_) (fun c7 => ?_)
      · refine r_vret S hr hlk (F := (cE Z A g)) (u := (up2 μ b o (filR i (μ b o) v))) hW ?_ dJ7_fill_53178_20
        rw [show i = n by omega]
      · refine lv_aload_n hxe hcd dJ7_fill_53178_10 rfl (lv_at hl 0 rfl) ?_
        refine lv_iload_n hxe hcd dJ7_fill_53178_11 rfl (lv_at hl 2 rfl) ?_
        refine lv_iload_n hxe hcd dJ7_fill_53178_12 rfl (lv_at hl 1 rfl) ?_
        refine r_iast S hW (x := (b, o)) hL (cE_arr hE) (vp_in_nI (by omega) hn) (E' := cE Z A g (up2 (up2 μ b o (filR i (μ b o) v)) b o (upd ((up2 μ b o (filR i (μ b o) v)) b o) (nI i).toNatClampNeg v))) (cE_upA hE) (fun y hy => cE_up y hy) dJ7_fill_53178_13 (fun H locs hW => ?_)
        refine lv_iinc (v := (nI (i + 1))) (lv' := [(2, .int (nI (i + 1))), (0, .ref (A (b, o))), (1, .int v), (3, .int (nI n))]) hxe hcd dJ7_fill_53178_14 hl (k := 2) rfl (nI_add i 1) (by decide) rfl (fun ls hl => ?_)
        refine lv_goto (tgt := 5) hxe hcd dJ7_fill_53178_17 (by decide) ?_
        exact ih5 (i + 1) (by omega) (by omega) _ _ _ (by rw [nI_clamp (by omega), up2_s, up2_2, filR_step] at hW; exact hW) (lv_sub hl [1, 2, 0, 3] rfl)
  exact loop5 (n + 1) 0 (Nat.lt_succ_self _) (Nat.zero_le _) _ _ _ (by rw [filR_0, up2_id]; exact hW) (lv_sub hl [2, 3, 1, 0] rfl)
set_option maxHeartbeats 4000000 in
set_option maxRecDepth 100000 in
theorem t_X4_changed (l : Launch) {Z : ZT} (hZ : zOK Z) {α : Type} (L : List α) (A : α → Nat) (E : α → va_E) (sz : Nat) {P : Nat} (k y : Int32) (hP : P ≤ 999) (h : KP k (nI P)) (h1 : ¬ k = nI 100) (h2 : ¬ k = nI 109) : XCi l yX4_changed cX4_changed 3 (some .int) 1 [.int k, .int (nI P), .int y] Z L A E sz (fun r => r = chg k (nI P) y) := by
  refine r_met (E := E) (by decide +kernel) (Nat.le_of_ble_eq_true rfl) ?_
  intro p e s m below meth c ls S hr hlk hnm hsz hW hl
  have hxe := S.1
  have hcd := S.2.1
  subst hsz
  have hl : lv_has ls 3 [(0, .int k), (1, .int (nI P)), (2, .int y)] := hl
  refine lv_iload_n hxe hcd dX4_changed_0 rfl (lv_at hl 0 rfl) ?_
  rcases KP_chg h h1 h2 with ⟨rfl, h3⟩ | ⟨rfl, h3⟩ | ⟨rfl, h3⟩ | ⟨rfl, h3⟩
  · refine lv_lookup (off := 43) (tgt := 44) hxe hcd dX4_changed_1 (by decide) (by first | rfl | decide) (by decide) ?_
    refine lv_iload_n hxe hcd dX4_changed_44 rfl (lv_at hl 2 rfl) ?_
    refine lv_iload_n hxe hcd dX4_changed_45 rfl (lv_at hl 1 rfl) ?_
    refine lv_imul hxe hcd dX4_changed_46 ?_
    refine lv_bipush (v := (nI 100)) hxe hcd dX4_changed_47 (by decide) ?_
    refine lv_idiv hxe hcd dX4_changed_49 (by decide) ?_
    refine r_iret0 S hr hlk hW ?_ dX4_changed_50
    simp [chg, show ¬ nI 103 = nI 99 by decide, show ¬ nI 103 = nI 102 by decide]
  · refine lv_lookup (off := 50) (tgt := 51) hxe hcd dX4_changed_1 (by decide) (by first | rfl | decide) (by decide) ?_
    refine lv_iload_n hxe hcd dX4_changed_51 rfl (lv_at hl 1 rfl) ?_
    refine lv_ineg hxe hcd dX4_changed_52 ?_
    refine lv_iload_n hxe hcd dX4_changed_53 rfl (lv_at hl 1 rfl) ?_
    refine lv_iload_n hxe hcd dX4_changed_54 rfl (lv_at hl 2 rfl) ?_
    refine r_min S hl.1 g_329 g_330 (Nat.le_of_ble_eq_true rfl) (Nat.le_of_ble_eq_true rfl) (Nat.le_of_ble_eq_true rfl) (Nat.le_of_ble_eq_true rfl) dX4_changed_55 ?_
    refine r_max S hl.1 g_332 g_333 (Nat.le_of_ble_eq_true rfl) (Nat.le_of_ble_eq_true rfl) (Nat.le_of_ble_eq_true rfl) (Nat.le_of_ble_eq_true rfl) dX4_changed_58 ?_
    refine r_iret0 S hr hlk hW ?_ dX4_changed_61
    simp [chg, show ¬ nI 99 = nI 103 by decide, show ¬ nI 99 = nI 102 by decide]
  · refine lv_lookup (off := 61) (tgt := 62) hxe hcd dX4_changed_1 (by decide) (by first | rfl | decide) (by decide) ?_
    refine lv_iload_n hxe hcd dX4_changed_62 rfl (lv_at hl 2 rfl) ?_
    refine lv_ineg hxe hcd dX4_changed_63 ?_
    refine r_iret0 S hr hlk hW ?_ dX4_changed_64
    simp [chg, show ¬ nI 102 = nI 103 by decide, show ¬ nI 102 = nI 99 by decide]
  · refine lv_lookup (off := 64) (tgt := 65) hxe hcd dX4_changed_1 (by decide) (by first | rfl | decide) (by decide) ?_
    refine lv_iload_n hxe hcd dX4_changed_65 rfl (lv_at hl 1 rfl) ?_
    have h5 := nI_rngs (lo := 2) (hi := 99) (by omega) (by decide) (by decide) h3
    refine lv_if_le (tgt := 77) hxe hcd dX4_changed_66 (by decide) (fun c66 => absurd c66 (nI_nle (by omega) (by omega))) (fun c66 => ?_)
    refine lv_iload_n hxe hcd dX4_changed_69 rfl (lv_at hl 2 rfl) ?_
    refine lv_iload_n hxe hcd dX4_changed_70 rfl (lv_at hl 1 rfl) ?_
    refine lv_idiv hxe hcd dX4_changed_71 (nI_ne0 (by omega) (by omega)) ?_
    refine lv_iload_n hxe hcd dX4_changed_72 rfl (lv_at hl 1 rfl) ?_
    refine lv_imul hxe hcd dX4_changed_73 ?_
    refine lv_goto (tgt := 78) hxe hcd dX4_changed_74 (by decide) ?_
    refine r_iret0 S hr hlk hW ?_ dX4_changed_78
    simp [chg, show ¬ nI 115 = nI 103 by decide, show ¬ nI 115 = nI 99 by decide, show ¬ nI 115 = nI 102 by decide]
set_option maxHeartbeats 4000000 in
set_option maxRecDepth 100000 in
theorem t_X4_recall (l : Launch) {Z : ZT} (hZ : zOK Z) (A : Nat × Nat → Nat) (g : Nat → Bool) (μ : CM) (sz : Nat) {f j : Nat} (x : Int32) (hf : f < 8) (hj : j < 8) (hx : x &&& nI 7 = nI j) : XCi l yX4_recall cX4_recall 3 (some .int) 1 [.ref (A (0, 17)), .int (nI f), .int x] Z (ids g) A (cE Z A g μ) sz (fun r => r = μ 0 18 (f * 8 + j)) := by
  refine r_met (E := (cE Z A g μ)) (by decide +kernel) (Nat.le_of_ble_eq_true rfl) ?_
  intro p e s m below meth c ls S hr hlk hnm hsz hW hl
  have hxe := S.1
  have hcd := S.2.1
  subst hsz
  have hl : lv_has ls 3 [(0, .ref (A (0, 17))), (1, .int (nI f)), (2, .int x)] := hl
  refine lv_aload_n hxe hcd dX4_recall_0 rfl (lv_at hl 0 rfl) ?_
  refine gf_X4_9 S hW dX4_recall_1 ?_
  refine lv_iload_n hxe hcd dX4_recall_4 rfl (lv_at hl 1 rfl) ?_
  refine lv_bipush (v := (nI 8)) hxe hcd dX4_recall_5 (by decide) ?_
  refine n_imul S (a := f) (b := 8) dX4_recall_7 ?_
  refine lv_iload_n hxe hcd dX4_recall_8 rfl (lv_at hl 2 rfl) ?_
  refine lv_bipush (v := (nI 7)) hxe hcd dX4_recall_9 (by decide) ?_
  refine lv_iand hxe hcd dX4_recall_11 ?_
  refine r_as (y := (nI j)) (hx) ?_
  refine n_iadd S (a := (f * 8)) (b := j) dX4_recall_12 ?_
  refine r_calli0 (r_runSN hZ S hW (As := [.ref (A (0, 18)), .int (nI ((f * 8) + j))]) (rest := []) (t_X9_read l hZ A g μ s.heap.size (b := 0) (o := 18) (n := 64) rfl (in_r (by decide) (by decide)) (nI ((f * 8) + j))) k_X4_21 (hl.1) rfl rfl (Nat.le_of_ble_eq_true rfl) ⟨Nat.le_of_ble_eq_true rfl, Nat.le_of_ble_eq_true rfl⟩ ⟨Nat.le_of_ble_eq_true rfl, Nat.le_of_ble_eq_true rfl⟩ dX4_recall_13) hW (fun r13 H locs hp13 hW => ?_)
  have hp13 := hp13.symm
  subst hp13
  refine r_iret0 S hr hlk hW ?_ dX4_recall_16
  rw [rd_in (n := 64) (k := f * 8 + j) _ (by omega) (by decide)]
set_option maxHeartbeats 4000000 in
set_option maxRecDepth 100000 in
theorem t_X4_given (l : Launch) {Z : ZT} (hZ : zOK Z) (A : Nat × Nat → Nat) (g : Nat → Bool) (μ : CM) (sz : Nat) (x : Int32) : XCi l yX4_given cX4_given 2 (some .int) 1 [.ref (A (0, 17)), .int x] Z (ids g) A (cE Z A g μ) sz (fun r => r = rd 160 (μ 0 19) x) := by
  refine r_met (E := (cE Z A g μ)) (by decide +kernel) (Nat.le_of_ble_eq_true rfl) ?_
  intro p e s m below meth c ls S hr hlk hnm hsz hW hl
  have hxe := S.1
  have hcd := S.2.1
  subst hsz
  have hl : lv_has ls 2 [(0, .ref (A (0, 17))), (1, .int x)] := hl
  refine lv_aload_n hxe hcd dX4_given_0 rfl (lv_at hl 0 rfl) ?_
  refine gf_X4_15 S hW dX4_given_1 ?_
  refine lv_iload_n hxe hcd dX4_given_4 rfl (lv_at hl 1 rfl) ?_
  refine r_calli0 (r_runSN hZ S hW (As := [.ref (A (0, 19)), .int x]) (rest := []) (t_X9_read l hZ A g μ s.heap.size (b := 0) (o := 19) (n := 160) rfl (in_r (by decide) (by decide)) x) k_X4_21 (hl.1) rfl rfl (Nat.le_of_ble_eq_true rfl) ⟨Nat.le_of_ble_eq_true rfl, Nat.le_of_ble_eq_true rfl⟩ ⟨Nat.le_of_ble_eq_true rfl, Nat.le_of_ble_eq_true rfl⟩ dX4_given_5) hW (fun r5 H locs hp5 hW => ?_)
  have hp5 := hp5.symm
  subst hp5
  refine r_iret0 S hr hlk hW ?_ dX4_given_8
  rfl
set_option maxHeartbeats 4000000 in
set_option maxRecDepth 100000 in
theorem t_X4_givenByFilter (l : Launch) {Z : ZT} (hZ : zOK Z) (A : Nat × Nat → Nat) (g : Nat → Bool) (μ : CM) (sz : Nat) (x : Int32) : XCi l yX4_givenByFilter cX4_givenByFilter 2 (some .int) 1 [.ref (A (0, 17)), .int x] Z (ids g) A (cE Z A g μ) sz (fun r => r = rd 160 (μ 0 20) x) := by
  refine r_met (E := (cE Z A g μ)) (by decide +kernel) (Nat.le_of_ble_eq_true rfl) ?_
  intro p e s m below meth c ls S hr hlk hnm hsz hW hl
  have hxe := S.1
  have hcd := S.2.1
  subst hsz
  have hl : lv_has ls 2 [(0, .ref (A (0, 17))), (1, .int x)] := hl
  refine lv_aload_n hxe hcd dX4_givenByFilter_0 rfl (lv_at hl 0 rfl) ?_
  refine gf_X4_18 S hW dX4_givenByFilter_1 ?_
  refine lv_iload_n hxe hcd dX4_givenByFilter_4 rfl (lv_at hl 1 rfl) ?_
  refine r_calli0 (r_runSN hZ S hW (As := [.ref (A (0, 20)), .int x]) (rest := []) (t_X9_read l hZ A g μ s.heap.size (b := 0) (o := 20) (n := 160) rfl (in_r (by decide) (by decide)) x) k_X4_21 (hl.1) rfl rfl (Nat.le_of_ble_eq_true rfl) ⟨Nat.le_of_ble_eq_true rfl, Nat.le_of_ble_eq_true rfl⟩ ⟨Nat.le_of_ble_eq_true rfl, Nat.le_of_ble_eq_true rfl⟩ dX4_givenByFilter_5) hW (fun r5 H locs hp5 hW => ?_)
  have hp5 := hp5.symm
  subst hp5
  refine r_iret0 S hr hlk hW ?_ dX4_givenByFilter_8
  rfl
set_option maxHeartbeats 4000000 in
set_option maxRecDepth 100000 in
theorem t_X4_pass (l : Launch) {Z : ZT} (hZ : zOK Z) (A : Nat × Nat → Nat) (g : Nat → Bool) (μ : CM) (sz : Nat) {b : Nat} (hb : sB g b) {f i P : Nat} (k y : Int32) (hk : μ b 2 f = k) (hP : μ b 3 f = nI P) (hP9 : P ≤ 999) (hKP : KP k (nI P)) (hf : f < 8) (hi : i < 160) (h : Nat → Int32) (hy : h i = y) (hM : MF (μ 0 18) f h i) : XMi l yX4_pass cX4_pass 10 (some .int) 2 [.ref (A (0, 17)), .ref (A (b, 1)), .int (nI f), .int (nI i), .int y] Z (ids g) A (cE Z A g) μ sz (fun r u => r = fpass k (nI P) h i ∧ u = up2 μ 0 18 (upd (μ 0 18) (f * 8 + i % 8) y)) := by
  refine r_met (E := (cE Z A g μ)) (by decide +kernel) (Nat.le_of_ble_eq_true rfl) ?_
  intro p e s m below meth c ls S hr hlk hnm hsz hW hl
  have hxe := S.1
  have hcd := S.2.1
  subst hsz
  have hl : lv_has ls 10 [(0, .ref (A (0, 17))), (1, .ref (A (b, 1))), (2, .int (nI f)), (3, .int (nI i)), (4, .int y)] := hl
  refine lv_aload_n hxe hcd dX4_pass_0 rfl (lv_at hl 1 rfl) ?_
  refine lv_iload_n hxe hcd dX4_pass_1 rfl (lv_at hl 2 rfl) ?_
  refine r_calli0 (r_runV hZ S hW (As := [.int (nI f)]) (rest := []) (t_X0_kindAt l hZ A g μ s.heap.size hb (nI f)) k_X4_61 (r_recv hW (x := (b, 1)) (in_s hb (by decide)) rfl rfl) (hl.1) rfl rfl (Nat.le_of_ble_eq_true rfl) ⟨Nat.le_of_ble_eq_true rfl, Nat.le_of_ble_eq_true rfl⟩ ⟨Nat.le_of_ble_eq_true rfl, Nat.le_of_ble_eq_true rfl⟩ dX4_pass_2) hW (fun r2 H locs hp2 hW => ?_)
  have hp2 := hp2.symm
  subst hp2
  refine r_as (y := (μ b 2 f)) (rd_in (n := 8) (k := f) _ (by omega) (by decide)) ?_
  refine r_as (y := k) (hk) ?_
  refine lv_istore (lv' := [(5, .int k), (0, .ref (A (0, 17))), (1, .ref (A (b, 1))), (2, .int (nI f)), (3, .int (nI i)), (4, .int y)]) hxe hcd dX4_pass_5 hl (by decide) rfl (fun ls hl => ?_)
  refine lv_aload_n hxe hcd dX4_pass_7 rfl (lv_at hl 2 rfl) ?_
  refine lv_iload_n hxe hcd dX4_pass_8 rfl (lv_at hl 3 rfl) ?_
  refine r_calli0 (r_runV hZ S hW (As := [.int (nI f)]) (rest := []) (t_X0_parameterAt l hZ A g μ H.size hb (nI f)) k_X4_65 (r_recv hW (x := (b, 1)) (in_s hb (by decide)) rfl rfl) (hl.1) rfl rfl (Nat.le_of_ble_eq_true rfl) ⟨Nat.le_of_ble_eq_true rfl, Nat.le_of_ble_eq_true rfl⟩ ⟨Nat.le_of_ble_eq_true rfl, Nat.le_of_ble_eq_true rfl⟩ dX4_pass_9) hW (fun r9 H locs hp9 hW => ?_)
  have hp9 := hp9.symm
  subst hp9
  refine r_as (y := (μ b 3 f)) (rd_in (n := 8) (k := f) _ (by omega) (by decide)) ?_
  refine r_as (y := (nI P)) (hP) ?_
  refine lv_istore (lv' := [(6, .int (nI P)), (5, .int k), (0, .ref (A (0, 17))), (1, .ref (A (b, 1))), (2, .int (nI f)), (3, .int (nI i)), (4, .int y)]) hxe hcd dX4_pass_12 hl (by decide) rfl (fun ls hl => ?_)
  refine lv_iload hxe hcd dX4_pass_14 (lv_at hl 1 rfl) ?_
  refine lv_bipush (v := (nI 100)) hxe hcd dX4_pass_16 (by decide) ?_
  refine lv_icmp_ne (tgt := 35) hxe hcd dX4_pass_18 (by decide) (fun c18 => ?_) (fun c18 => ?_)
  · refine lv_iload hxe hcd dX4_pass_35 (lv_at hl 1 rfl) ?_
    refine lv_bipush (v := (nI 109)) hxe hcd dX4_pass_37 (by decide) ?_
    refine lv_icmp_ne (tgt := 95) hxe hcd dX4_pass_39 (by decide) (fun c39 => ?_) (fun c39 => ?_)
    · refine lv_iload hxe hcd dX4_pass_95 (lv_at hl 1 rfl) ?_
      refine lv_iload hxe hcd dX4_pass_97 (lv_at hl 0 rfl) ?_
      refine lv_iload hxe hcd dX4_pass_99 (lv_at hl 6 rfl) ?_
      refine r_calli0 (r_runS hZ S hW (As := [.int k, .int (nI P), .int y]) (rest := []) (t_X4_changed l hZ (ids g) A (cE Z A g μ) H.size (P := P) k y hP9 hKP c18 c39) k_X4_71 (hl.1) rfl rfl (Nat.le_of_ble_eq_true rfl) ⟨Nat.le_of_ble_eq_true rfl, Nat.le_of_ble_eq_true rfl⟩ ⟨Nat.le_of_ble_eq_true rfl, Nat.le_of_ble_eq_true rfl⟩ dX4_pass_101) hW (fun r101 H locs hp101 hW => ?_)
      have hp101 := hp101.symm
      subst hp101
      refine lv_istore (lv' := [(7, .int (chg k (nI P) y)), (6, .int (nI P)), (5, .int k), (0, .ref (A (0, 17))), (1, .ref (A (b, 1))), (2, .int (nI f)), (3, .int (nI i)), (4, .int y)]) hxe hcd dX4_pass_104 hl (by decide) rfl (fun ls hl => ?_)
      refine lv_aload_n hxe hcd dX4_pass_106 rfl (lv_at hl 3 rfl) ?_
      refine gf_X4_9 S hW dX4_pass_107 ?_
      refine lv_iload_n hxe hcd dX4_pass_110 rfl (lv_at hl 5 rfl) ?_
      refine lv_bipush (v := (nI 8)) hxe hcd dX4_pass_111 (by decide) ?_
      refine n_imul S (a := f) (b := 8) dX4_pass_113 ?_
      refine lv_iload_n hxe hcd dX4_pass_114 rfl (lv_at hl 6 rfl) ?_
      refine lv_bipush (v := (nI 7)) hxe hcd dX4_pass_115 (by decide) ?_
      refine lv_iand hxe hcd dX4_pass_117 ?_
      refine r_as (y := (nI (i % 8))) (and70 (by omega)) ?_
      refine n_iadd S (a := (f * 8)) (b := (i % 8)) dX4_pass_118 ?_
      refine lv_iload hxe hcd dX4_pass_119 (lv_at hl 7 rfl) ?_
      refine r_callv (F := (cE Z A g)) (r_runSN hZ S hW (As := [.ref (A (0, 18)), .int (nI ((f * 8) + (i % 8))), .int y]) (rest := []) (t_X9_write l hZ A g μ H.size (b := 0) (o := 18) (n := 64) rfl (in_r (by decide) (by decide)) (nI ((f * 8) + (i % 8))) y) k_X4_57 (hl.1) rfl rfl (Nat.le_of_ble_eq_true rfl) ⟨Nat.le_of_ble_eq_true rfl, Nat.le_of_ble_eq_true rfl⟩ ⟨Nat.le_of_ble_eq_true rfl, Nat.le_of_ble_eq_true rfl⟩ dX4_pass_121) hW (fun u121 H locs hp121 hW => ?_)
      have hp121 := hp121.symm
      subst hp121
      refine lv_iload hxe hcd dX4_pass_124 (lv_at hl 0 rfl) ?_
      refine r_iret S hr hlk (F := (cE Z A g)) (u := (up2 μ 0 18 (wr 64 (μ 0 18) (nI ((f * 8) + (i % 8))) y))) hW ?_ dX4_pass_126
      rw [wr_in (n := 64) (k := f * 8 + i % 8) _ _ (by omega) (by decide)]
      refine ⟨?_, rfl⟩
      rw [fpass, if_neg c18, if_neg c39, hy]
    · have hd := KP_m hP9 (by rw [← c39]; exact hKP)
      refine lv_iload hxe hcd dX4_pass_42 (lv_at hl 6 rfl) ?_
      refine lv_istore (lv' := [(8, .int y), (6, .int (nI P)), (5, .int k), (0, .ref (A (0, 17))), (1, .ref (A (b, 1))), (2, .int (nI f)), (3, .int (nI i)), (4, .int y)]) hxe hcd dX4_pass_44 hl (by decide) rfl (fun ls hl => ?_)
      refine lv_iconst (v := (nI 1)) hxe hcd dX4_pass_46 (by decide) ?_
      refine lv_istore (lv' := [(9, .int (nI 1)), (8, .int y), (6, .int (nI P)), (5, .int k), (0, .ref (A (0, 17))), (1, .ref (A (b, 1))), (2, .int (nI f)), (3, .int (nI i)), (4, .int y)]) hxe hcd dX4_pass_47 hl (by decide) rfl (fun ls hl => ?_)
      have hl : lv_has ls 10 [(9, .int (nI 1)), (8, .int (msum h i 1)), (6, .int (nI P)), (5, .int k), (0, .ref (A (0, 17))), (1, .ref (A (b, 1))), (2, .int (nI f)), (3, .int (nI i)), (4, .int y)] := by
        rw [msum_1, hy]; exact hl
      have loop49 : ∀ (n_ : Nat) (t : Nat), P - t < n_ → (1 ≤ t) → (t ≤ P) → ∀ (H : Heap) (locs : List Loc) (ls : Array Slot), wX Z (ids g) A (cE Z A g μ) (fA (ids g) A (cE Z A g μ) s.heap.size) s H locs → lv_has ls 10 [(0, .ref (A (0, 17))), (1, .ref (A (b, 1))), (2, .int (nI f)), (3, .int (nI i)), (4, .int y), (5, .int k), (6, .int (nI P)), (8, .int (msum h i t)), (9, .int (nI t))] → W p l e (rmD 2 0 0) s m ([.ref (A (0, 17)), .ref (A (b, 1)), .int (nI f), .int (nI i), .int y] : List Value).toArray below meth c H locs 0 0 (MQ below (va_Qi (fun r u => r = fpass k (nI P) h i ∧ u = up2 μ 0 18 (upd (μ 0 18) (f * 8 + i % 8) y)) (fun u t => qB Z (ids g) A ((cE Z A g) u) (fA (ids g) A (cE Z A g μ) s.heap.size) t) (fA (ids g) A (cE Z A g μ) s.heap.size)) ([.ref (A (0, 17)), .ref (A (b, 1)), .int (nI f), .int (nI i), .int y] : List Value).toArray s 0 0 (fA (ids g) A (cE Z A g μ) s.heap.size)) (F0 m 49 ls []) := by
        intro n_
        induction n_ with
        | zero => intro t hm; exact absurd hm (Nat.not_lt_zero _)
        | succ n_ ih49 =>
          intro t hm ht ht2 H locs ls hW hl
          refine lv_iload hxe hcd dX4_pass_49 (lv_at hl 8 rfl) ?_
          refine lv_iload hxe hcd dX4_pass_51 (lv_at hl 6 rfl) ?_
          refine n_ge S (a := t) (b := P) (by omega) (by omega) dX4_pass_53 (tgt := 76) (by decide) (fun c53 => ?_) (fun c53 => ?_)
          · refine lv_iload hxe hcd dX4_pass_76 (lv_at hl 6 rfl) ?_
            refine lv_if_le (tgt := 89) hxe hcd dX4_pass_78 (by decide) (fun c78 => absurd c78 (nI_nle (by omega) (by omega))) (fun c78 => ?_)
            refine lv_iload hxe hcd dX4_pass_81 (lv_at hl 7 rfl) ?_
            refine lv_iload hxe hcd dX4_pass_83 (lv_at hl 6 rfl) ?_
            refine lv_idiv hxe hcd dX4_pass_85 (nI_ne0 (by omega) (by omega)) ?_
            refine lv_goto (tgt := 90) hxe hcd dX4_pass_86 (by decide) ?_
            refine lv_istore (lv' := [(7, .int ((msum h i t) / (nI P))), (0, .ref (A (0, 17))), (1, .ref (A (b, 1))), (2, .int (nI f)), (3, .int (nI i)), (4, .int y), (5, .int k), (6, .int (nI P)), (8, .int (msum h i t)), (9, .int (nI t))]) hxe hcd dX4_pass_90 hl (by decide) rfl (fun ls hl => ?_)
            refine lv_goto (tgt := 106) hxe hcd dX4_pass_92 (by decide) ?_
            refine lv_aload_n hxe hcd dX4_pass_106 rfl (lv_at hl 1 rfl) ?_
            refine gf_X4_9 S hW dX4_pass_107 ?_
            refine lv_iload_n hxe hcd dX4_pass_110 rfl (lv_at hl 3 rfl) ?_
            refine lv_bipush (v := (nI 8)) hxe hcd dX4_pass_111 (by decide) ?_
            refine n_imul S (a := f) (b := 8) dX4_pass_113 ?_
            refine lv_iload_n hxe hcd dX4_pass_114 rfl (lv_at hl 4 rfl) ?_
            refine lv_bipush (v := (nI 7)) hxe hcd dX4_pass_115 (by decide) ?_
            refine lv_iand hxe hcd dX4_pass_117 ?_
            refine r_as (y := (nI (i % 8))) (and70 (by omega)) ?_
            refine n_iadd S (a := (f * 8)) (b := (i % 8)) dX4_pass_118 ?_
            refine lv_iload hxe hcd dX4_pass_119 (lv_at hl 5 rfl) ?_
            refine r_callv (F := (cE Z A g)) (r_runSN hZ S hW (As := [.ref (A (0, 18)), .int (nI ((f * 8) + (i % 8))), .int y]) (rest := []) (t_X9_write l hZ A g μ H.size (b := 0) (o := 18) (n := 64) rfl (in_r (by decide) (by decide)) (nI ((f * 8) + (i % 8))) y) k_X4_57 (hl.1) rfl rfl (Nat.le_of_ble_eq_true rfl) ⟨Nat.le_of_ble_eq_true rfl, Nat.le_of_ble_eq_true rfl⟩ ⟨Nat.le_of_ble_eq_true rfl, Nat.le_of_ble_eq_true rfl⟩ dX4_pass_121) hW (fun u121 H locs hp121 hW => ?_)
            have hp121 := hp121.symm
            subst hp121
            refine lv_iload hxe hcd dX4_pass_124 (lv_at hl 0 rfl) ?_
            refine r_iret S hr hlk (F := (cE Z A g)) (u := (up2 μ 0 18 (wr 64 (μ 0 18) (nI ((f * 8) + (i % 8))) y))) hW ?_ dX4_pass_126
            rw [wr_in (n := 64) (k := f * 8 + i % 8) _ _ (by omega) (by decide)]
            refine ⟨?_, rfl⟩
            rw [fpass, if_neg c18, if_pos c39, nI_clamp (by omega), show t = P by omega]
          · refine lv_iload hxe hcd dX4_pass_56 (lv_at hl 7 rfl) ?_
            refine lv_aload_n hxe hcd dX4_pass_58 rfl (lv_at hl 0 rfl) ?_
            refine lv_iload_n hxe hcd dX4_pass_59 rfl (lv_at hl 2 rfl) ?_
            refine lv_iload_n hxe hcd dX4_pass_60 rfl (lv_at hl 3 rfl) ?_
            refine lv_iload hxe hcd dX4_pass_61 (lv_at hl 8 rfl) ?_
            refine lv_isub hxe hcd dX4_pass_63 ?_
            refine r_calli0 (r_runV hZ S hW (As := [.int (nI f), .int ((nI i) - (nI t))]) (rest := [.int (msum h i t)]) (t_X4_recall l hZ A g μ H.size (f := f) (j := (i + 8 - t) % 8) ((nI i) - (nI t)) hf (Nat.mod_lt _ (by decide)) (and7 (by omega) (by omega))) k_X4_68 (r_recv hW (x := (0, 17)) (in_r (by decide) (by decide)) rfl rfl) (hl.1) rfl rfl (Nat.le_of_ble_eq_true rfl) ⟨Nat.le_of_ble_eq_true rfl, Nat.le_of_ble_eq_true rfl⟩ ⟨Nat.le_of_ble_eq_true rfl, Nat.le_of_ble_eq_true rfl⟩ dX4_pass_64) hW (fun r64 H locs hp64 hW => ?_)
            have hp64 := hp64.symm
            subst hp64
            refine r_as (y := (if t ≤ i then h (i - t) else nI 0)) (hM t (by omega) (by omega)) ?_
            refine lv_iadd hxe hcd dX4_pass_67 ?_
            refine lv_istore (lv' := [(8, .int ((msum h i t) + (if t ≤ i then h (i - t) else nI 0))), (0, .ref (A (0, 17))), (1, .ref (A (b, 1))), (2, .int (nI f)), (3, .int (nI i)), (4, .int y), (5, .int k), (6, .int (nI P)), (9, .int (nI t))]) hxe hcd dX4_pass_68 hl (by decide) rfl (fun ls hl => ?_)
            refine lv_iinc (v := (nI (t + 1))) (lv' := [(9, .int (nI (t + 1))), (8, .int ((msum h i t) + (if t ≤ i then h (i - t) else nI 0))), (0, .ref (A (0, 17))), (1, .ref (A (b, 1))), (2, .int (nI f)), (3, .int (nI i)), (4, .int y), (5, .int k), (6, .int (nI P))]) hxe hcd dX4_pass_70 hl (k := 8) rfl (nI_add t 1) (by decide) rfl (fun ls hl => ?_)
            refine lv_goto (tgt := 49) hxe hcd dX4_pass_73 (by decide) ?_
            have hl : lv_has ls 10 [(9, .int (nI (t + 1))), (8, .int (msum h i (t + 1))), (0, .ref (A (0, 17))), (1, .ref (A (b, 1))), (2, .int (nI f)), (3, .int (nI i)), (4, .int y), (5, .int k), (6, .int (nI P))] := by
              exact lv_sub hl [0, 1, 2, 3, 4, 5, 6, 7, 8] rfl
            exact ih49 (t + 1) (by omega) (by omega) (by omega) _ _ _ hW (lv_sub hl [2, 3, 4, 5, 6, 7, 8, 1, 0] rfl)
      exact loop49 ((P - 1) + 1) 1 (Nat.lt_succ_self _) (by omega) (by omega) _ _ _ hW (lv_sub hl [4, 5, 6, 7, 8, 3, 2, 1, 0] rfl)
  · refine lv_aload_n hxe hcd dX4_pass_21 rfl (lv_at hl 2 rfl) ?_
    refine lv_iload_n hxe hcd dX4_pass_22 rfl (lv_at hl 4 rfl) ?_
    refine lv_iload_n hxe hcd dX4_pass_23 rfl (lv_at hl 5 rfl) ?_
    refine lv_iload hxe hcd dX4_pass_24 (lv_at hl 0 rfl) ?_
    have hd := KP_d hP9 (by rw [← c18]; exact hKP)
    refine lv_isub hxe hcd dX4_pass_26 ?_
    refine r_calli0 (r_runV hZ S hW (As := [.int (nI f), .int ((nI i) - (nI P))]) (rest := []) (t_X4_recall l hZ A g μ H.size (f := f) (j := (i + 8 - P) % 8) ((nI i) - (nI P)) hf (Nat.mod_lt _ (by decide)) (and7 (by omega) (by omega))) k_X4_68 (r_recv hW (x := (0, 17)) (in_r (by decide) (by decide)) rfl rfl) (hl.1) rfl rfl (Nat.le_of_ble_eq_true rfl) ⟨Nat.le_of_ble_eq_true rfl, Nat.le_of_ble_eq_true rfl⟩ ⟨Nat.le_of_ble_eq_true rfl, Nat.le_of_ble_eq_true rfl⟩ dX4_pass_27) hW (fun r27 H locs hp27 hW => ?_)
    have hp27 := hp27.symm
    subst hp27
    refine r_as (y := (if P ≤ i then h (i - P) else nI 0)) (hM P hd.1 hd.2) ?_
    refine lv_istore (lv' := [(7, .int (if P ≤ i then h (i - P) else nI 0)), (6, .int (nI P)), (5, .int k), (0, .ref (A (0, 17))), (1, .ref (A (b, 1))), (2, .int (nI f)), (3, .int (nI i)), (4, .int y)]) hxe hcd dX4_pass_30 hl (by decide) rfl (fun ls hl => ?_)
    refine lv_goto (tgt := 106) hxe hcd dX4_pass_32 (by decide) ?_
    refine lv_aload_n hxe hcd dX4_pass_106 rfl (lv_at hl 3 rfl) ?_
    refine gf_X4_9 S hW dX4_pass_107 ?_
    refine lv_iload_n hxe hcd dX4_pass_110 rfl (lv_at hl 5 rfl) ?_
    refine lv_bipush (v := (nI 8)) hxe hcd dX4_pass_111 (by decide) ?_
    refine n_imul S (a := f) (b := 8) dX4_pass_113 ?_
    refine lv_iload_n hxe hcd dX4_pass_114 rfl (lv_at hl 6 rfl) ?_
    refine lv_bipush (v := (nI 7)) hxe hcd dX4_pass_115 (by decide) ?_
    refine lv_iand hxe hcd dX4_pass_117 ?_
    refine r_as (y := (nI (i % 8))) (and70 (by omega)) ?_
    refine n_iadd S (a := (f * 8)) (b := (i % 8)) dX4_pass_118 ?_
    refine lv_iload hxe hcd dX4_pass_119 (lv_at hl 7 rfl) ?_
    refine r_callv (F := (cE Z A g)) (r_runSN hZ S hW (As := [.ref (A (0, 18)), .int (nI ((f * 8) + (i % 8))), .int y]) (rest := []) (t_X9_write l hZ A g μ H.size (b := 0) (o := 18) (n := 64) rfl (in_r (by decide) (by decide)) (nI ((f * 8) + (i % 8))) y) k_X4_57 (hl.1) rfl rfl (Nat.le_of_ble_eq_true rfl) ⟨Nat.le_of_ble_eq_true rfl, Nat.le_of_ble_eq_true rfl⟩ ⟨Nat.le_of_ble_eq_true rfl, Nat.le_of_ble_eq_true rfl⟩ dX4_pass_121) hW (fun u121 H locs hp121 hW => ?_)
    have hp121 := hp121.symm
    subst hp121
    refine lv_iload hxe hcd dX4_pass_124 (lv_at hl 0 rfl) ?_
    refine r_iret S hr hlk (F := (cE Z A g)) (u := (up2 μ 0 18 (wr 64 (μ 0 18) (nI ((f * 8) + (i % 8))) y))) hW ?_ dX4_pass_126
    rw [wr_in (n := 64) (k := f * 8 + i % 8) _ _ (by omega) (by decide)]
    refine ⟨?_, rfl⟩
    rw [fpass, if_pos c18, nI_clamp (by omega)]
