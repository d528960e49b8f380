set_option maxHeartbeats 4000000 in
set_option maxRecDepth 100000 in
theorem t_X10_isIn (l : Launch) {Z : ZT} (hZ : zOK Z) {α : Type} (L : List α) (A : α → Nat) (E : α → va_E) (sz : Nat) (x lo hi : Int32) : XCi l yX10_isIn cX10_isIn 3 (some .boolean) 0 [.int x, .int lo, .int hi] Z L A E sz (fun r => BP r (lo ≤ x ∧ x ≤ hi)) := by
  refine r_met (E := E) (by decide +kernel) (Nat.le_of_ble_eq_true rfl) ?_
  intro p e s m below meth c ls S hr hlk hnm hsz hW hl
  have hxe := S.1
  have hcd := S.2.1
  subst hsz
  have hl : lv_has ls 3 [(0, .int x), (1, .int lo), (2, .int hi)] := hl
  refine lv_iload_n hxe hcd dX10_isIn_0 rfl (lv_at hl 0 rfl) ?_
  refine lv_iload_n hxe hcd dX10_isIn_1 rfl (lv_at hl 1 rfl) ?_
  refine lv_icmp_lt (tgt := 14) hxe hcd dX10_isIn_2 (by decide) (fun c2 => ?_) (fun c2 => ?_)
  · refine lv_iconst (v := (nI 0)) hxe hcd dX10_isIn_14 (by decide) ?_
    refine r_zret0 S hr hlk hW (by decide +kernel) ?_ dX10_isIn_15
    exact BP_f (fun h => I_nlt.mpr h.1 c2)
  · refine lv_iload_n hxe hcd dX10_isIn_5 rfl (lv_at hl 0 rfl) ?_
    refine lv_iload_n hxe hcd dX10_isIn_6 rfl (lv_at hl 2 rfl) ?_
    refine lv_icmp_gt (tgt := 14) hxe hcd dX10_isIn_7 (by decide) (fun c7 => ?_) (fun c7 => ?_)
    · refine lv_iconst (v := (nI 0)) hxe hcd dX10_isIn_14 (by decide) ?_
      refine r_zret0 S hr hlk hW (by decide +kernel) ?_ dX10_isIn_15
      exact BP_f (fun h => I_nlt.mpr h.2 c7)
    · refine lv_iconst (v := (nI 1)) hxe hcd dX10_isIn_10 (by decide) ?_
      refine lv_goto (tgt := 15) hxe hcd dX10_isIn_11 (by decide) ?_
      refine r_zret0 S hr hlk hW (by decide +kernel) ?_ dX10_isIn_15
      exact BP_t ⟨I_nlt.mp c2, I_nlt.mp c7⟩
set_option maxHeartbeats 4000000 in
set_option maxRecDepth 100000 in
theorem t_X10_thrown (l : Launch) {Z : ZT} (hZ : zOK Z) (B : Nat → Nat) (ν : MM) (sz : Nat)  : XCi l yX10_thrown cX10_thrown 1 (some .int) 0 [.ref (B 0)] Z mds B (mE Z B ν) sz (fun r => r = ν 0 0) := by
  refine r_met (E := (mE Z B ν)) (by decide +kernel) (Nat.le_of_ble_eq_true rfl) ?_
  intro p e s m below meth c ls S hr hlk hnm hsz hW hl
  have hxe := S.1
  have hcd := S.2.1
  subst hsz
  have hl : lv_has ls 1 [(0, .ref (B 0))] := hl
  refine lv_aload_n hxe hcd dX10_thrown_0 rfl (lv_at hl 0 rfl) ?_
  refine gf_X10_53 S hW dX10_thrown_1 ?_
  refine r_iret0 S hr hlk hW ?_ dX10_thrown_4
  rfl
set_option maxHeartbeats 4000000 in
set_option maxRecDepth 100000 in
theorem t_X10_fail (l : Launch) {Z : ZT} (hZ : zOK Z) (B : Nat → Nat) (ν : MM) (sz : Nat) (x : Int32) : XMi l yX10_fail cX10_fail 2 (some .int) 0 [.ref (B 0), .int x] Z mds B (mE Z B) ν sz (fun r u => r = nI 0 ∧ u = up1 ν 0 (upd (ν 0) 0 x)) := by
  refine r_met (E := (mE Z B ν)) (by decide +kernel) (Nat.le_of_ble_eq_true rfl) ?_
  intro p e s m below meth c ls S hr hlk hnm hsz hW hl
  have hxe := S.1
  have hcd := S.2.1
  subst hsz
  have hl : lv_has ls 2 [(0, .ref (B 0)), (1, .int x)] := hl
  refine lv_aload_n hxe hcd dX10_fail_0 rfl (lv_at hl 0 rfl) ?_
  refine lv_iload_n hxe hcd dX10_fail_1 rfl (lv_at hl 1 rfl) ?_
  refine gp_X10_53 S hW dX10_fail_2 (fun H locs hW => ?_)
  refine lv_iconst (v := (nI 0)) hxe hcd dX10_fail_5 (by decide) ?_
  refine r_iret S hr hlk (F := (mE Z B)) (u := (up1 ν 0 (upd (ν 0) 0 x))) hW ?_ dX10_fail_6
  exact ⟨rfl, rfl⟩
set_option maxHeartbeats 4000000 in
set_option maxRecDepth 100000 in
theorem t_X10_lays (l : Launch) {Z : ZT} (hZ : zOK Z) (B : Nat → Nat) (ν : MM) (sz : Nat) {i j : Nat} (hi0 : 0 < i) (hi : i < 13) (hil : mLen i = 1357) (hj0 : 0 < j) (hj : j < 13) (hjl : mLen j = 1357) (hne : j ≠ i) : XMv l yX10_lays cX10_lays 3 0 [.ref (B i), .ref (B j)] Z mds B (mE Z B) ν sz (fun u => u = up1 ν i (ν j)) := by
  refine r_met (E := (mE Z B ν)) (by decide +kernel) (Nat.le_of_ble_eq_true rfl) ?_
  intro p e s m below meth c ls S hr hlk hnm hsz hW hl
  have hxe := S.1
  have hcd := S.2.1
  subst hsz
  have hl : lv_has ls 3 [(0, .ref (B i)), (1, .ref (B j))] := hl
  refine lv_iconst (v := (nI 0)) hxe hcd dX10_lays_0 (by decide) ?_
  refine lv_istore_n (lv' := [(2, .int (nI 0)), (0, .ref (B i)), (1, .ref (B j))]) hxe hcd dX10_lays_1 rfl hl (by decide) rfl (fun ls hl => ?_)
  have loop2 : ∀ (n_ : Nat) (k : Nat), 1357 - k < n_ → (k ≤ 1357) → ∀ (H : Heap) (locs : List Loc) (ls : Array Slot), wX Z mds B (mE Z B (up1 ν i (cpR k (ν j) (ν i)))) (fA mds B (mE Z B ν) s.heap.size) s H locs → lv_has ls 3 [(0, .ref (B i)), (1, .ref (B j)), (2, .int (nI k))] → W p l e (rmD 0 0 0) s m ([.ref (B i), .ref (B j)] : List Value).toArray below meth c H locs 0 0 (MQ below (va_Qv (fun u => u = up1 ν i (ν j)) (fun u t => qB Z mds B ((mE Z B) u) (fA mds B (mE Z B ν) s.heap.size) t) (fA mds B (mE Z B ν) s.heap.size)) ([.ref (B i), .ref (B j)] : List Value).toArray s 0 0 (fA mds B (mE Z B ν) s.heap.size)) (F0 m 2 ls []) := by
    intro n_
    induction n_ with
    | zero => intro k hm; exact absurd hm (Nat.not_lt_zero _)
    | succ n_ ih2 =>
      intro k hm hk H locs ls hW hl
      refine lv_iload_n hxe hcd dX10_lays_2 rfl (lv_at hl 2 rfl) ?_
      refine lv_sipush (v := (nI 1357)) hxe hcd dX10_lays_3 (by decide) ?_
      refine n_ge S (a := k) (b := 1357) (by omega) (by omega) dX10_lays_6 (tgt := 21) (by decide) (fun c6 => ?_) (fun c6 => ?_)
      · have hW := wX_row hW (i := i) (f := ν j) hi0 (fun t ht => by rw [up1_s, cpR, if_pos (by omega)])
        refine r_vret S hr hlk (F := (mE Z B)) (u := (up1 (up1 ν i (cpR k (ν j) (ν i))) i (ν j))) hW ?_ dX10_lays_21
        rw [up1_2]
      · refine lv_aload_n hxe hcd dX10_lays_9 rfl (lv_at hl 0 rfl) ?_
        refine lv_iload_n hxe hcd dX10_lays_10 rfl (lv_at hl 2 rfl) ?_
        refine lv_aload_n hxe hcd dX10_lays_11 rfl (lv_at hl 1 rfl) ?_
        refine lv_iload_n hxe hcd dX10_lays_12 rfl (lv_at hl 2 rfl) ?_
        refine gm_ald S hW (i := j) (k := k) (n := 1357) hj hj0 hjl (by omega) dX10_lays_13 ?_
        refine gm_ast S hW (i := i) (k := k) (n := 1357) hi hi0 hil (by omega) dX10_lays_14 (fun H locs hW => ?_)
        refine lv_iinc (v := (nI (k + 1))) (lv' := [(2, .int (nI (k + 1))), (0, .ref (B i)), (1, .ref (B j))]) hxe hcd dX10_lays_15 hl (k := 2) rfl (nI_add k 1) (by decide) rfl (fun ls hl => ?_)
        refine lv_goto (tgt := 2) hxe hcd dX10_lays_18 (by decide) ?_
        exact ih2 (k + 1) (by omega) (by omega) _ _ _ (by rw [up1_o hne, up1_s, up1_2, cpR_step] at hW; exact hW) (lv_sub hl [1, 2, 0] rfl)
  exact loop2 (1357 + 1) 0 (Nat.lt_succ_self _) (Nat.zero_le _) _ _ _ (by rw [cpR_0, up1_id]; exact hW) (lv_sub hl [1, 2, 0] rfl)
set_option maxHeartbeats 4000000 in
set_option maxRecDepth 100000 in
theorem t_X10_begins (l : Launch) {Z : ZT} (hZ : zOK Z) (B : Nat → Nat) (ν : MM) (sz : Nat)  : XMv l yX10_begins cX10_begins 1 1 [.ref (B 0)] Z mds B (mE Z B) ν sz (fun u => u = up1 (up1 ν 0 (upd (ν 0) 0 (nI 0))) 2 (ν 1)) := by
  refine r_met (E := (mE Z B ν)) (by decide +kernel) (Nat.le_of_ble_eq_true rfl) ?_
  intro p e s m below meth c ls S hr hlk hnm hsz hW hl
  have hxe := S.1
  have hcd := S.2.1
  subst hsz
  have hl : lv_has ls 1 [(0, .ref (B 0))] := hl
  refine lv_aload_n hxe hcd dX10_begins_0 rfl (lv_at hl 0 rfl) ?_
  refine lv_iconst (v := (nI 0)) hxe hcd dX10_begins_1 (by decide) ?_
  refine gp_X10_53 S hW dX10_begins_2 (fun H locs hW => ?_)
  refine lv_aload_n hxe hcd dX10_begins_5 rfl (lv_at hl 0 rfl) ?_
  refine gf_X10_20 S hW dX10_begins_6 ?_
  refine lv_aload_n hxe hcd dX10_begins_9 rfl (lv_at hl 0 rfl) ?_
  refine gf_X10_16 S hW dX10_begins_10 ?_
  refine r_callv (F := (mE Z B)) (r_runS hZ S hW (As := [.ref (B 2), .ref (B 1)]) (rest := []) (t_X10_lays l hZ B (up1 ν 0 (upd (ν 0) 0 (nI 0))) H.size (i := 2) (j := 1) (by decide) (by decide) rfl (by decide) (by decide) rfl (by decide)) k_X10_56 (hl.1) rfl rfl (Nat.le_of_ble_eq_true rfl) ⟨Nat.le_of_ble_eq_true rfl, Nat.le_of_ble_eq_true rfl⟩ ⟨Nat.le_of_ble_eq_true rfl, Nat.le_of_ble_eq_true rfl⟩ dX10_begins_13) hW (fun u13 H locs hp13 hW => ?_)
  have hp13 := hp13.symm
  subst hp13
  refine r_vret S hr hlk (F := (mE Z B)) (u := (up1 (up1 ν 0 (upd (ν 0) 0 (nI 0))) 2 ((up1 ν 0 (upd (ν 0) 0 (nI 0))) 1))) hW ?_ dX10_begins_16
  rw [up1_o (j := 1) (i := 0) (by decide)]
set_option maxHeartbeats 4000000 in
set_option maxRecDepth 100000 in
theorem t_X10_ends (l : Launch) {Z : ZT} (hZ : zOK Z) (B : Nat → Nat) (ν : MM) (sz : Nat) (is : Int32) {t ch : Nat} (ht : ν 0 0 = nI t) (ht9 : t < 9) (hch : ν 0 1 = nI ch) (hch8 : ch ≤ 8) : XMi l yX10_ends cX10_ends 3 (some .int) 1 [.ref (B 0), .int is] Z mds B (mE Z B) ν sz (fun r u => (t ≠ 0 ∧ r = nI 0 ∧ u = up1 ν 1 (ν 2)) ∨ (t = 0 ∧ r = is ∧ u = up1 (up1 ν 5 (pushP (ν 5) ch (ν 2))) 0 (upd (ν 0) 1 (nI (pushC ch))))) := by
  refine r_met (E := (mE Z B ν)) (by decide +kernel) (Nat.le_of_ble_eq_true rfl) ?_
  intro p e s m below meth c ls S hr hlk hnm hsz hW hl
  have hxe := S.1
  have hcd := S.2.1
  subst hsz
  have hl : lv_has ls 3 [(0, .ref (B 0)), (1, .int is)] := hl
  refine lv_aload_n hxe hcd dX10_ends_0 rfl (lv_at hl 0 rfl) ?_
  refine gf_X10_53 S hW dX10_ends_1 ?_
  refine r_as (y := (nI t)) (ht) ?_
  refine lv_if_eq (tgt := 20) hxe hcd dX10_ends_4 (by decide) (fun c4 => ?_) (fun c4 => ?_)
  · refine lv_aload_n hxe hcd dX10_ends_20 rfl (lv_at hl 0 rfl) ?_
    refine gf_X10_60 S hW dX10_ends_21 ?_
    refine r_as (y := (nI ch)) (hch) ?_
    refine lv_bipush (v := (nI 8)) hxe hcd dX10_ends_24 (by decide) ?_
    refine n_ne S (a := ch) (b := 8) (by omega) (by omega) dX10_ends_26 (tgt := 70) (by decide) (fun c26 => ?_) (fun c26 => ?_)
    · refine lv_iconst (v := (nI 0)) hxe hcd dX10_ends_70 (by decide) ?_
      refine lv_istore_n (lv' := [(2, .int (nI 0)), (0, .ref (B 0)), (1, .int is)]) hxe hcd dX10_ends_71 rfl hl (by decide) rfl (fun ls hl => ?_)
      have loop72 : ∀ (n_ : Nat) (i : Nat), 1357 - i < n_ → (i ≤ 1357) → ∀ (H : Heap) (locs : List Loc) (ls : Array Slot), wX Z mds B (mE Z B (up1 ν 5 (laP (ν 5) (ch * 1357) (ν 2) i))) (fA mds B (mE Z B ν) s.heap.size) s H locs → lv_has ls 3 [(0, .ref (B 0)), (1, .int is), (2, .int (nI i))] → W p l e (rmD 1 0 0) s m ([.ref (B 0), .int is] : List Value).toArray below meth c H locs 0 0 (MQ below (va_Qi (fun r u => (t ≠ 0 ∧ r = nI 0 ∧ u = up1 ν 1 (ν 2)) ∨ (t = 0 ∧ r = is ∧ u = up1 (up1 ν 5 (pushP (ν 5) ch (ν 2))) 0 (upd (ν 0) 1 (nI (pushC ch))))) (fun u t => qB Z mds B ((mE Z B) u) (fA mds B (mE Z B ν) s.heap.size) t) (fA mds B (mE Z B ν) s.heap.size)) ([.ref (B 0), .int is] : List Value).toArray s 0 0 (fA mds B (mE Z B ν) s.heap.size)) (F0 m 72 ls []) := by
        intro n_
        induction n_ with
        | zero => intro i hm; exact absurd hm (Nat.not_lt_zero _)
        | succ n_ ih72 =>
          intro i hm hi H locs ls hW hl
          refine lv_iload_n hxe hcd dX10_ends_72 rfl (lv_at hl 2 rfl) ?_
          refine lv_sipush (v := (nI 1357)) hxe hcd dX10_ends_73 (by decide) ?_
          refine n_ge S (a := i) (b := 1357) (by omega) (by omega) dX10_ends_76 (tgt := 106) (by decide) (fun c76 => ?_) (fun c76 => ?_)
          · refine lv_aload_n hxe hcd dX10_ends_106 rfl (lv_at hl 0 rfl) ?_
            refine lv_dup hxe hcd dX10_ends_107 rfl ?_
            refine gf_X10_60 S hW dX10_ends_108 ?_
            refine r_as (y := (nI ch)) (by rw [up1_o (j := 0) (i := 5) (by decide), hch]) ?_
            refine lv_iconst (v := (nI 1)) hxe hcd dX10_ends_111 (by decide) ?_
            refine n_iadd S (a := ch) (b := 1) dX10_ends_112 ?_
            refine gp_X10_60 S hW dX10_ends_113 (fun H locs hW => ?_)
            refine lv_iload_n hxe hcd dX10_ends_116 rfl (lv_at hl 1 rfl) ?_
            refine r_iret S hr hlk (F := (mE Z B)) (u := (up1 (up1 ν 5 (laP (ν 5) (ch * 1357) (ν 2) i)) 0 (upd ((up1 ν 5 (laP (ν 5) (ch * 1357) (ν 2) i)) 0) 1 (nI (ch + 1))))) hW ?_ dX10_ends_117
            have hz : t = 0 := by
              rcases Nat.eq_zero_or_pos t with e | e
              · exact e
              · exact absurd c4 (nI_ne0 e (by omega))
            have e2 : i = 1357 := by omega
            refine Or.inr ⟨hz, rfl, ?_⟩
            rw [e2, up1_o (j := 0) (i := 5) (by decide), pushP, if_neg (by omega), pushC, if_neg (by omega)]
          · refine lv_aload_n hxe hcd dX10_ends_79 rfl (lv_at hl 0 rfl) ?_
            refine gf_X10_29 S hW dX10_ends_80 ?_
            refine lv_aload_n hxe hcd dX10_ends_83 rfl (lv_at hl 0 rfl) ?_
            refine gf_X10_60 S hW dX10_ends_84 ?_
            refine r_as (y := (nI ch)) (by rw [up1_o (j := 0) (i := 5) (by decide), hch]) ?_
            refine lv_sipush (v := (nI 1357)) hxe hcd dX10_ends_87 (by decide) ?_
            refine n_imul S (a := ch) (b := 1357) dX10_ends_90 ?_
            refine lv_iload_n hxe hcd dX10_ends_91 rfl (lv_at hl 2 rfl) ?_
            refine n_iadd S (a := (ch * 1357)) (b := i) dX10_ends_92 ?_
            refine lv_aload_n hxe hcd dX10_ends_93 rfl (lv_at hl 0 rfl) ?_
            refine gf_X10_20 S hW dX10_ends_94 ?_
            refine lv_iload_n hxe hcd dX10_ends_97 rfl (lv_at hl 2 rfl) ?_
            refine gm_ald S hW (i := 2) (k := i) (n := 1357) (by decide) (by decide) rfl (by omega) dX10_ends_98 ?_
            refine gm_ast S hW (i := 5) (k := ((ch * 1357) + i)) (n := 10856) (by decide) (by decide) rfl (by omega) dX10_ends_99 (fun H locs hW => ?_)
            refine lv_iinc (v := (nI (i + 1))) (lv' := [(2, .int (nI (i + 1))), (0, .ref (B 0)), (1, .int is)]) hxe hcd dX10_ends_100 hl (k := 2) rfl (nI_add i 1) (by decide) rfl (fun ls hl => ?_)
            refine lv_goto (tgt := 72) hxe hcd dX10_ends_103 (by decide) ?_
            exact ih72 (i + 1) (by omega) (by omega) _ _ _ (by rw [up1_s, up1_2, up1_o (j := 2) (i := 5) (by decide), laP_step] at hW; exact hW) (lv_sub hl [1, 2, 0] rfl)
      exact loop72 (1357 + 1) 0 (Nat.lt_succ_self _) (Nat.zero_le _) _ _ _ (by rw [laP_0, up1_id]; exact hW) (lv_sub hl [1, 2, 0] rfl)
    · have h8e : ch = 8 := by omega
      refine lv_iconst (v := (nI 0)) hxe hcd dX10_ends_29 (by decide) ?_
      refine lv_istore_n (lv' := [(2, .int (nI 0)), (0, .ref (B 0)), (1, .int is)]) hxe hcd dX10_ends_30 rfl hl (by decide) rfl (fun ls hl => ?_)
      have loop31 : ∀ (n_ : Nat) (k : Nat), 9499 - k < n_ → (k ≤ 9499) → ∀ (H : Heap) (locs : List Loc) (ls : Array Slot), wX Z mds B (mE Z B (up1 ν 5 (shP (ν 5) k))) (fA mds B (mE Z B ν) s.heap.size) s H locs → lv_has ls 3 [(0, .ref (B 0)), (1, .int is), (2, .int (nI k))] → W p l e (rmD 1 0 0) s m ([.ref (B 0), .int is] : List Value).toArray below meth c H locs 0 0 (MQ below (va_Qi (fun r u => (t ≠ 0 ∧ r = nI 0 ∧ u = up1 ν 1 (ν 2)) ∨ (t = 0 ∧ r = is ∧ u = up1 (up1 ν 5 (pushP (ν 5) ch (ν 2))) 0 (upd (ν 0) 1 (nI (pushC ch))))) (fun u t => qB Z mds B ((mE Z B) u) (fA mds B (mE Z B ν) s.heap.size) t) (fA mds B (mE Z B ν) s.heap.size)) ([.ref (B 0), .int is] : List Value).toArray s 0 0 (fA mds B (mE Z B ν) s.heap.size)) (F0 m 31 ls []) := by
        intro n_
        induction n_ with
        | zero => intro k hm; exact absurd hm (Nat.not_lt_zero _)
        | succ n_ ih31 =>
          intro k hm hk H locs ls hW hl
          refine lv_iload_n hxe hcd dX10_ends_31 rfl (lv_at hl 2 rfl) ?_
          refine lv_sipush (v := (nI 9499)) hxe hcd dX10_ends_32 (by decide) ?_
          refine n_ge S (a := k) (b := 9499) (by omega) (by omega) dX10_ends_35 (tgt := 60) (by decide) (fun c35 => ?_) (fun c35 => ?_)
          · refine lv_aload_n hxe hcd dX10_ends_60 rfl (lv_at hl 0 rfl) ?_
            refine lv_dup hxe hcd dX10_ends_61 rfl ?_
            refine gf_X10_60 S hW dX10_ends_62 ?_
            refine r_as (y := (nI 8)) (by rw [up1_o (j := 0) (i := 5) (by decide), hch, h8e]) ?_
            refine lv_iconst (v := (nI 1)) hxe hcd dX10_ends_65 (by decide) ?_
            refine n_isub S (a := 8) (b := 1) (by omega) dX10_ends_66 ?_
            refine gp_X10_60 S hW dX10_ends_67 (fun H locs hW => ?_)
            refine lv_iconst (v := (nI 0)) hxe hcd dX10_ends_70 (by decide) ?_
            refine lv_istore_n (lv' := [(2, .int (nI 0)), (0, .ref (B 0)), (1, .int is)]) hxe hcd dX10_ends_71 rfl hl (by decide) rfl (fun ls hl => ?_)
            have loop72 : ∀ (n_ : Nat) (i : Nat), 1357 - i < n_ → (i ≤ 1357) → ∀ (H : Heap) (locs : List Loc) (ls : Array Slot), wX Z mds B (mE Z B (up1 (up1 ν 0 (upd (ν 0) 1 (nI 7))) 5 (laP (shP (ν 5) 9499) (7 * 1357) (ν 2) i))) (fA mds B (mE Z B ν) s.heap.size) s H locs → lv_has ls 3 [(0, .ref (B 0)), (1, .int is), (2, .int (nI i))] → W p l e (rmD 1 0 0) s m ([.ref (B 0), .int is] : List Value).toArray below meth c H locs 0 0 (MQ below (va_Qi (fun r u => (t ≠ 0 ∧ r = nI 0 ∧ u = up1 ν 1 (ν 2)) ∨ (t = 0 ∧ r = is ∧ u = up1 (up1 ν 5 (pushP (ν 5) ch (ν 2))) 0 (upd (ν 0) 1 (nI (pushC ch))))) (fun u t => qB Z mds B ((mE Z B) u) (fA mds B (mE Z B ν) s.heap.size) t) (fA mds B (mE Z B ν) s.heap.size)) ([.ref (B 0), .int is] : List Value).toArray s 0 0 (fA mds B (mE Z B ν) s.heap.size)) (F0 m 72 ls []) := by
              intro n_
              induction n_ with
              | zero => intro i hm; exact absurd hm (Nat.not_lt_zero _)
              | succ n_ ih72 =>
                intro i hm hi H locs ls hW hl
                refine lv_iload_n hxe hcd dX10_ends_72 rfl (lv_at hl 2 rfl) ?_
                refine lv_sipush (v := (nI 1357)) hxe hcd dX10_ends_73 (by decide) ?_
                refine n_ge S (a := i) (b := 1357) (by omega) (by omega) dX10_ends_76 (tgt := 106) (by decide) (fun c76 => ?_) (fun c76 => ?_)
                · refine lv_aload_n hxe hcd dX10_ends_106 rfl (lv_at hl 0 rfl) ?_
                  refine lv_dup hxe hcd dX10_ends_107 rfl ?_
                  refine gf_X10_60 S hW dX10_ends_108 ?_
                  refine r_as (y := (nI 7)) (by rw [up1_o (j := 0) (i := 5) (by decide), up1_s, upd_s]) ?_
                  refine lv_iconst (v := (nI 1)) hxe hcd dX10_ends_111 (by decide) ?_
                  refine n_iadd S (a := 7) (b := 1) dX10_ends_112 ?_
                  refine r_as (y := (nI 8)) (by decide) ?_
                  refine gp_X10_60 S hW dX10_ends_113 (fun H locs hW => ?_)
                  refine lv_iload_n hxe hcd dX10_ends_116 rfl (lv_at hl 1 rfl) ?_
                  refine r_iret S hr hlk (F := (mE Z B)) (u := (up1 (up1 (up1 ν 0 (upd (ν 0) 1 (nI 7))) 5 (laP (shP (ν 5) 9499) (7 * 1357) (ν 2) i)) 0 (upd ((up1 (up1 ν 0 (upd (ν 0) 1 (nI 7))) 5 (laP (shP (ν 5) 9499) (7 * 1357) (ν 2) i)) 0) 1 (nI 8)))) hW ?_ dX10_ends_117
                  have hz : t = 0 := by
                    rcases Nat.eq_zero_or_pos t with e | e
                    · exact e
                    · exact absurd c4 (nI_ne0 e (by omega))
                  have e2 : i = 1357 := by omega
                  refine Or.inr ⟨hz, rfl, ?_⟩
                  rw [e2, up1_o (j := 0) (i := 5) (by decide), up1_s, upd_2, up1_c (i := 0) (j := 5) (by decide), up1_2, pushP, if_pos h8e, pushC, if_pos h8e]
                · refine lv_aload_n hxe hcd dX10_ends_79 rfl (lv_at hl 0 rfl) ?_
                  refine gf_X10_29 S hW dX10_ends_80 ?_
                  refine lv_aload_n hxe hcd dX10_ends_83 rfl (lv_at hl 0 rfl) ?_
                  refine gf_X10_60 S hW dX10_ends_84 ?_
                  refine r_as (y := (nI 7)) (by rw [up1_o (j := 0) (i := 5) (by decide), up1_s, upd_s]) ?_
                  refine lv_sipush (v := (nI 1357)) hxe hcd dX10_ends_87 (by decide) ?_
                  refine n_imul S (a := 7) (b := 1357) dX10_ends_90 ?_
                  refine r_as (y := (nI 9499)) (by decide) ?_
                  refine lv_iload_n hxe hcd dX10_ends_91 rfl (lv_at hl 2 rfl) ?_
                  refine n_iadd S (a := 9499) (b := i) dX10_ends_92 ?_
                  refine lv_aload_n hxe hcd dX10_ends_93 rfl (lv_at hl 0 rfl) ?_
                  refine gf_X10_20 S hW dX10_ends_94 ?_
                  refine lv_iload_n hxe hcd dX10_ends_97 rfl (lv_at hl 2 rfl) ?_
                  refine gm_ald S hW (i := 2) (k := i) (n := 1357) (by decide) (by decide) rfl (by omega) dX10_ends_98 ?_
                  refine gm_ast S hW (i := 5) (k := (9499 + i)) (n := 10856) (by decide) (by decide) rfl (by omega) dX10_ends_99 (fun H locs hW => ?_)
                  refine lv_iinc (v := (nI (i + 1))) (lv' := [(2, .int (nI (i + 1))), (0, .ref (B 0)), (1, .int is)]) hxe hcd dX10_ends_100 hl (k := 2) rfl (nI_add i 1) (by decide) rfl (fun ls hl => ?_)
                  refine lv_goto (tgt := 72) hxe hcd dX10_ends_103 (by decide) ?_
                  exact ih72 (i + 1) (by omega) (by omega) _ _ _ (by rw [up1_s, up1_2, up1_o (j := 2) (i := 5) (by decide), up1_o (j := 2) (i := 0) (by decide), laP_step] at hW; exact hW) (lv_sub hl [1, 2, 0] rfl)
            exact loop72 (1357 + 1) 0 (Nat.lt_succ_self _) (Nat.zero_le _) _ _ _ (by rw [laP_0]; rw [up1_c (i := 5) (j := 0) (by decide), show k = 9499 by omega] at hW; exact hW) (lv_sub hl [1, 2, 0] rfl)
          · refine lv_aload_n hxe hcd dX10_ends_38 rfl (lv_at hl 0 rfl) ?_
            refine gf_X10_29 S hW dX10_ends_39 ?_
            refine lv_iload_n hxe hcd dX10_ends_42 rfl (lv_at hl 2 rfl) ?_
            refine lv_aload_n hxe hcd dX10_ends_43 rfl (lv_at hl 0 rfl) ?_
            refine gf_X10_29 S hW dX10_ends_44 ?_
            refine lv_iload_n hxe hcd dX10_ends_47 rfl (lv_at hl 2 rfl) ?_
            refine lv_sipush (v := (nI 1357)) hxe hcd dX10_ends_48 (by decide) ?_
            refine n_iadd S (a := k) (b := 1357) dX10_ends_51 ?_
            refine gm_ald S hW (i := 5) (k := (k + 1357)) (n := 10856) (by decide) (by decide) rfl (by omega) dX10_ends_52 ?_
            refine gm_ast S hW (i := 5) (k := k) (n := 10856) (by decide) (by decide) rfl (by omega) dX10_ends_53 (fun H locs hW => ?_)
            refine lv_iinc (v := (nI (k + 1))) (lv' := [(2, .int (nI (k + 1))), (0, .ref (B 0)), (1, .int is)]) hxe hcd dX10_ends_54 hl (k := 2) rfl (nI_add k 1) (by decide) rfl (fun ls hl => ?_)
            refine lv_goto (tgt := 31) hxe hcd dX10_ends_57 (by decide) ?_
            exact ih31 (k + 1) (by omega) (by omega) _ _ _ (by rw [up1_s, up1_2, shP_step] at hW; exact hW) (lv_sub hl [1, 2, 0] rfl)
      exact loop31 (9499 + 1) 0 (Nat.lt_succ_self _) (Nat.zero_le _) _ _ _ (by rw [shP_0, up1_id]; exact hW) (lv_sub hl [1, 2, 0] rfl)
  · refine lv_aload_n hxe hcd dX10_ends_7 rfl (lv_at hl 0 rfl) ?_
    refine gf_X10_16 S hW dX10_ends_8 ?_
    refine lv_aload_n hxe hcd dX10_ends_11 rfl (lv_at hl 0 rfl) ?_
    refine gf_X10_20 S hW dX10_ends_12 ?_
    refine r_callv (F := (mE Z B)) (r_runS hZ S hW (As := [.ref (B 1), .ref (B 2)]) (rest := []) (t_X10_lays l hZ B ν s.heap.size (i := 1) (j := 2) (by decide) (by decide) rfl (by decide) (by decide) rfl (by decide)) k_X10_56 (hl.1) rfl rfl (Nat.le_of_ble_eq_true rfl) ⟨Nat.le_of_ble_eq_true rfl, Nat.le_of_ble_eq_true rfl⟩ ⟨Nat.le_of_ble_eq_true rfl, Nat.le_of_ble_eq_true rfl⟩ dX10_ends_15) hW (fun u15 H locs hp15 hW => ?_)
    have hp15 := hp15.symm
    subst hp15
    refine lv_iconst (v := (nI 0)) hxe hcd dX10_ends_18 (by decide) ?_
    refine r_iret S hr hlk (F := (mE Z B)) (u := (up1 ν 1 (ν 2))) hW ?_ dX10_ends_19
    exact Or.inl ⟨fun z => c4 (by rw [z, nI_0]), rfl, rfl⟩
set_option maxHeartbeats 4000000 in
set_option maxRecDepth 100000 in
theorem t_X10_isSong (l : Launch) {Z : ZT} (hZ : zOK Z) {α : Type} (L : List α) (A : α → Nat) (E : α → va_E) (sz : Nat) (x : Int32) : XCi l yX10_isSong cX10_isSong 1 (some .boolean) 1 [.int x] Z L A E sz (fun r => BP r (IX x 4)) := by
  refine r_met (E := E) (by decide +kernel) (Nat.le_of_ble_eq_true rfl) ?_
  intro p e s m below meth c ls S hr hlk hnm hsz hW hl
  have hxe := S.1
  have hcd := S.2.1
  subst hsz
  have hl : lv_has ls 1 [(0, .int x)] := hl
  refine lv_iload_n hxe hcd dX10_isSong_0 rfl (lv_at hl 0 rfl) ?_
  refine lv_iconst (v := (nI 0)) hxe hcd dX10_isSong_1 (by decide) ?_
  refine lv_iconst (v := (nI 3)) hxe hcd dX10_isSong_2 (by decide) ?_
  refine r_calli0 (r_runS hZ S hW (As := [.int x, .int (nI 0), .int (nI 3)]) (rest := []) (t_X10_isIn l hZ L A E s.heap.size x (nI 0) (nI 3)) k_X10_63 (hl.1) rfl rfl (Nat.le_of_ble_eq_true rfl) ⟨Nat.le_of_ble_eq_true rfl, Nat.le_of_ble_eq_true rfl⟩ ⟨Nat.le_of_ble_eq_true rfl, Nat.le_of_ble_eq_true rfl⟩ dX10_isSong_3) hW (fun r3 H locs hp3 hW => ?_)
  rcases hp3 with ⟨hp30, hp3⟩ | ⟨hp30, hp3⟩
  · subst hp30
    refine r_zret0 S hr hlk hW (by decide +kernel) ?_ dX10_isSong_6
    first | exact BP_t ((IX_le (n := 3) (by decide)).mp hp3) | exact BP_f (fun h => hp3 ((IX_le (n := 3) (by decide)).mpr h))
  · subst hp30
    refine r_zret0 S hr hlk hW (by decide +kernel) ?_ dX10_isSong_6
    first | exact BP_t ((IX_le (n := 3) (by decide)).mp hp3) | exact BP_f (fun h => hp3 ((IX_le (n := 3) (by decide)).mpr h))
set_option maxHeartbeats 4000000 in
set_option maxRecDepth 100000 in
theorem t_X10_isFilter (l : Launch) {Z : ZT} (hZ : zOK Z) (B : Nat → Nat) (ν : MM) (sz : Nat) {nf : Nat} (hnf : ν 1 0 = nI nf) (hnf8 : nf ≤ 8) (x : Int32) : XCi l yX10_isFilter cX10_isFilter 2 (some .boolean) 1 [.ref (B 0), .int x] Z mds B (mE Z B ν) sz (fun r => BP r (IX x nf)) := by
  refine r_met (E := (mE Z B ν)) (by decide +kernel) (Nat.le_of_ble_eq_true rfl) ?_
  intro p e s m below meth c ls S hr hlk hnm hsz hW hl
  have hxe := S.1
  have hcd := S.2.1
  subst hsz
  have hl : lv_has ls 2 [(0, .ref (B 0)), (1, .int x)] := hl
  refine lv_iload_n hxe hcd dX10_isFilter_0 rfl (lv_at hl 1 rfl) ?_
  refine lv_iconst (v := (nI 0)) hxe hcd dX10_isFilter_1 (by decide) ?_
  refine lv_aload_n hxe hcd dX10_isFilter_2 rfl (lv_at hl 0 rfl) ?_
  refine gf_X10_16 S hW dX10_isFilter_3 ?_
  refine lv_iconst (v := (nI 0)) hxe hcd dX10_isFilter_6 (by decide) ?_
  refine gm_ald S hW (i := 1) (k := 0) (n := 1357) (by decide) (by decide) rfl (by omega) dX10_isFilter_7 ?_
  refine r_as (y := (nI nf)) (hnf) ?_
  refine lv_iconst (v := (nI 1)) hxe hcd dX10_isFilter_8 (by decide) ?_
  refine lv_isub hxe hcd dX10_isFilter_9 ?_
  refine r_calli0 (r_runS hZ S hW (As := [.int x, .int (nI 0), .int ((nI nf) - (nI 1))]) (rest := []) (t_X10_isIn l hZ mds B (mE Z B ν) s.heap.size x (nI 0) ((nI nf) - (nI 1))) k_X10_63 (hl.1) rfl rfl (Nat.le_of_ble_eq_true rfl) ⟨Nat.le_of_ble_eq_true rfl, Nat.le_of_ble_eq_true rfl⟩ ⟨Nat.le_of_ble_eq_true rfl, Nat.le_of_ble_eq_true rfl⟩ dX10_isFilter_10) hW (fun r10 H locs hp10 hW => ?_)
  rcases hp10 with ⟨hp100, hp10⟩ | ⟨hp100, hp10⟩
  · subst hp100
    refine r_zret0 S hr hlk hW (by decide +kernel) ?_ dX10_isFilter_13
    first | exact BP_t ((IX_sub (by omega)).mp hp10) | exact BP_f (fun h => hp10 ((IX_sub (by omega)).mpr h))
  · subst hp100
    refine r_zret0 S hr hlk hW (by decide +kernel) ?_ dX10_isFilter_13
    first | exact BP_t ((IX_sub (by omega)).mp hp10) | exact BP_f (fun h => hp10 ((IX_sub (by omega)).mpr h))
set_option maxHeartbeats 4000000 in
set_option maxRecDepth 100000 in
theorem t_X10_isTank (l : Launch) {Z : ZT} (hZ : zOK Z) (B : Nat → Nat) (ν : MM) (sz : Nat) {nt : Nat} (hnt : ν 1 1 = nI nt) (hnt4 : nt ≤ 4) (x : Int32) : XCi l yX10_isTank cX10_isTank 2 (some .boolean) 1 [.ref (B 0), .int x] Z mds B (mE Z B ν) sz (fun r => BP r (IX x nt)) := by
  refine r_met (E := (mE Z B ν)) (by decide +kernel) (Nat.le_of_ble_eq_true rfl) ?_
  intro p e s m below meth c ls S hr hlk hnm hsz hW hl
  have hxe := S.1
  have hcd := S.2.1
  subst hsz
  have hl : lv_has ls 2 [(0, .ref (B 0)), (1, .int x)] := hl
  refine lv_iload_n hxe hcd dX10_isTank_0 rfl (lv_at hl 1 rfl) ?_
  refine lv_iconst (v := (nI 0)) hxe hcd dX10_isTank_1 (by decide) ?_
  refine lv_aload_n hxe hcd dX10_isTank_2 rfl (lv_at hl 0 rfl) ?_
  refine gf_X10_16 S hW dX10_isTank_3 ?_
  refine lv_iconst (v := (nI 1)) hxe hcd dX10_isTank_6 (by decide) ?_
  refine gm_ald S hW (i := 1) (k := 1) (n := 1357) (by decide) (by decide) rfl (by omega) dX10_isTank_7 ?_
  refine r_as (y := (nI nt)) (hnt) ?_
  refine lv_iconst (v := (nI 1)) hxe hcd dX10_isTank_8 (by decide) ?_
  refine lv_isub hxe hcd dX10_isTank_9 ?_
  refine r_calli0 (r_runS hZ S hW (As := [.int x, .int (nI 0), .int ((nI nt) - (nI 1))]) (rest := []) (t_X10_isIn l hZ mds B (mE Z B ν) s.heap.size x (nI 0) ((nI nt) - (nI 1))) k_X10_63 (hl.1) rfl rfl (Nat.le_of_ble_eq_true rfl) ⟨Nat.le_of_ble_eq_true rfl, Nat.le_of_ble_eq_true rfl⟩ ⟨Nat.le_of_ble_eq_true rfl, Nat.le_of_ble_eq_true rfl⟩ dX10_isTank_10) hW (fun r10 H locs hp10 hW => ?_)
  rcases hp10 with ⟨hp100, hp10⟩ | ⟨hp100, hp10⟩
  · subst hp100
    refine r_zret0 S hr hlk hW (by decide +kernel) ?_ dX10_isTank_13
    first | exact BP_t ((IX_sub (by omega)).mp hp10) | exact BP_f (fun h => hp10 ((IX_sub (by omega)).mpr h))
  · subst hp100
    refine r_zret0 S hr hlk hW (by decide +kernel) ?_ dX10_isTank_13
    first | exact BP_t ((IX_sub (by omega)).mp hp10) | exact BP_f (fun h => hp10 ((IX_sub (by omega)).mpr h))
set_option maxHeartbeats 4000000 in
set_option maxRecDepth 100000 in
theorem t_X10_of (l : Launch) {Z : ZT} (hZ : zOK Z) {α : Type} (L : List α) (A : α → Nat) (E : α → va_E) (sz : Nat) {t w : Nat} : XCi l yX10_of cX10_of 2 (some .int) 0 [.int (nI t), .int (nI w)] Z L A E sz (fun r => r = nI (29 + 12 * t + w)) := by
  refine r_met (E := E) (by decide +kernel) (Nat.le_of_ble_eq_true rfl) ?_
  intro p e s m below meth c ls S hr hlk hnm hsz hW hl
  have hxe := S.1
  have hcd := S.2.1
  subst hsz
  have hl : lv_has ls 2 [(0, .int (nI t)), (1, .int (nI w))] := hl
  refine lv_bipush (v := (nI 29)) hxe hcd dX10_of_0 (by decide) ?_
  refine lv_bipush (v := (nI 12)) hxe hcd dX10_of_2 (by decide) ?_
  refine lv_iload_n hxe hcd dX10_of_4 rfl (lv_at hl 0 rfl) ?_
  refine n_imul S (a := 12) (b := t) dX10_of_5 ?_
  refine n_iadd S (a := 29) (b := (12 * t)) dX10_of_6 ?_
  refine lv_iload_n hxe hcd dX10_of_7 rfl (lv_at hl 1 rfl) ?_
  refine n_iadd S (a := (29 + (12 * t))) (b := w) dX10_of_8 ?_
  refine r_iret0 S hr hlk hW ?_ dX10_of_9
  rfl
set_option maxHeartbeats 4000000 in
set_option maxRecDepth 100000 in
theorem t_X10_size (l : Launch) {Z : ZT} (hZ : zOK Z) {α : Type} (L : List α) (A : α → Nat) (E : α → va_E) (sz : Nat) (x : Int32) : XCi l yX10_size cX10_size 1 (some .int) 0 [.int x] Z L A E sz (fun r => r = iabs x) := by
  refine r_met (E := E) (by decide +kernel) (Nat.le_of_ble_eq_true rfl) ?_
  intro p e s m below meth c ls S hr hlk hnm hsz hW hl
  have hxe := S.1
  have hcd := S.2.1
  subst hsz
  have hl : lv_has ls 1 [(0, .int x)] := hl
  refine lv_iload_n hxe hcd dX10_size_0 rfl (lv_at hl 0 rfl) ?_
  refine lv_if_ge (tgt := 9) hxe hcd dX10_size_1 (by decide) (fun c1 => ?_) (fun c1 => ?_)
  · refine lv_iload_n hxe hcd dX10_size_9 rfl (lv_at hl 0 rfl) ?_
    refine r_iret0 S hr hlk hW ?_ dX10_size_10
    rw [iabs, if_neg (I_nlt.mpr c1)]
  · refine lv_iload_n hxe hcd dX10_size_4 rfl (lv_at hl 0 rfl) ?_
    refine lv_ineg hxe hcd dX10_size_5 ?_
    refine lv_goto (tgt := 10) hxe hcd dX10_size_6 (by decide) ?_
    refine r_iret0 S hr hlk hW ?_ dX10_size_10
    rw [iabs, if_pos (I_nle.mp c1)]
set_option maxHeartbeats 4000000 in
set_option maxRecDepth 100000 in
theorem t_X10_isAllowed (l : Launch) {Z : ZT} (hZ : zOK Z) {α : Type} (L : List α) (A : α → Nat) (E : α → va_E) (sz : Nat) (k x : Int32) : XCi l yX10_isAllowed cX10_isAllowed 2 (some .boolean) 1 [.int k, .int x] Z L A E sz (fun r => BP r (KP k x)) := by
  refine r_met (E := E) (by decide +kernel) (Nat.le_of_ble_eq_true rfl) ?_
  intro p e s m below meth c ls S hr hlk hnm hsz hW hl
  have hxe := S.1
  have hcd := S.2.1
  subst hsz
  have hl : lv_has ls 2 [(0, .int k), (1, .int x)] := hl
  refine lv_iload_n hxe hcd dX10_isAllowed_0 rfl (lv_at hl 0 rfl) ?_
  by_cases e1_99 : k = nI 99
  · subst e1_99
    refine lv_tableIn (tgt := 109) hxe hcd dX10_isAllowed_1 (by decide) (by decide) (by first | rfl | decide) (by decide) ?_
    refine lv_iload_n hxe hcd dX10_isAllowed_109 rfl (lv_at hl 1 rfl) ?_
    refine lv_iconst (v := (nI 1)) hxe hcd dX10_isAllowed_110 (by decide) ?_
    refine lv_sipush (v := (nI 999)) hxe hcd dX10_isAllowed_111 (by decide) ?_
    refine r_calli0 (r_runS hZ S hW (As := [.int x, .int (nI 1), .int (nI 999)]) (rest := []) (t_X10_isIn l hZ L A E s.heap.size x (nI 1) (nI 999)) k_X10_63 (hl.1) rfl rfl (Nat.le_of_ble_eq_true rfl) ⟨Nat.le_of_ble_eq_true rfl, Nat.le_of_ble_eq_true rfl⟩ ⟨Nat.le_of_ble_eq_true rfl, Nat.le_of_ble_eq_true rfl⟩ dX10_isAllowed_114) hW (fun r114 H locs hp114 hW => ?_)
    rcases hp114 with ⟨hp1140, hp114⟩ | ⟨hp1140, hp114⟩
    · subst hp1140
      refine r_zret0 S hr hlk hW (by decide +kernel) ?_ dX10_isAllowed_117
      first | exact BP_t (KP_99.mpr hp114) | exact BP_f (fun h => hp114 (KP_99.mp h))
    · subst hp1140
      refine r_zret0 S hr hlk hW (by decide +kernel) ?_ dX10_isAllowed_117
      first | exact BP_t (KP_99.mpr hp114) | exact BP_f (fun h => hp114 (KP_99.mp h))
  by_cases e1_100 : k = nI 100
  · subst e1_100
    refine lv_tableIn (tgt := 93) hxe hcd dX10_isAllowed_1 (by decide) (by decide) (by first | rfl | decide) (by decide) ?_
    refine lv_iload_n hxe hcd dX10_isAllowed_93 rfl (lv_at hl 1 rfl) ?_
    refine lv_iconst (v := (nI 1)) hxe hcd dX10_isAllowed_94 (by decide) ?_
    refine lv_bipush (v := (nI 8)) hxe hcd dX10_isAllowed_95 (by decide) ?_
    refine r_calli0 (r_runS hZ S hW (As := [.int x, .int (nI 1), .int (nI 8)]) (rest := []) (t_X10_isIn l hZ L A E s.heap.size x (nI 1) (nI 8)) k_X10_63 (hl.1) rfl rfl (Nat.le_of_ble_eq_true rfl) ⟨Nat.le_of_ble_eq_true rfl, Nat.le_of_ble_eq_true rfl⟩ ⟨Nat.le_of_ble_eq_true rfl, Nat.le_of_ble_eq_true rfl⟩ dX10_isAllowed_97) hW (fun r97 H locs hp97 hW => ?_)
    rcases hp97 with ⟨hp970, hp97⟩ | ⟨hp970, hp97⟩
    · subst hp970
      refine r_zret0 S hr hlk hW (by decide +kernel) ?_ dX10_isAllowed_100
      first | exact BP_t (KP_100.mpr hp97) | exact BP_f (fun h => hp97 (KP_100.mp h))
    · subst hp970
      refine r_zret0 S hr hlk hW (by decide +kernel) ?_ dX10_isAllowed_100
      first | exact BP_t (KP_100.mpr hp97) | exact BP_f (fun h => hp97 (KP_100.mp h))
  by_cases e1_102 : k = nI 102
  · subst e1_102
    refine lv_tableIn (tgt := 118) hxe hcd dX10_isAllowed_1 (by decide) (by decide) (by first | rfl | decide) (by decide) ?_
    refine lv_iload_n hxe hcd dX10_isAllowed_118 rfl (lv_at hl 1 rfl) ?_
    refine lv_if_ne (tgt := 126) hxe hcd dX10_isAllowed_119 (by decide) (fun c119 => ?_) (fun c119 => ?_)
    · refine lv_iconst (v := (nI 0)) hxe hcd dX10_isAllowed_126 (by decide) ?_
      refine r_zret0 S hr hlk hW (by decide +kernel) ?_ dX10_isAllowed_127
      first | exact BP_t (KP_102.mpr c119) | exact BP_f (fun h => c119 (KP_102.mp h))
    · refine lv_iconst (v := (nI 1)) hxe hcd dX10_isAllowed_122 (by decide) ?_
      refine lv_goto (tgt := 127) hxe hcd dX10_isAllowed_123 (by decide) ?_
      refine r_zret0 S hr hlk hW (by decide +kernel) ?_ dX10_isAllowed_127
      first | exact BP_t (KP_102.mpr c119) | exact BP_f (fun h => c119 (KP_102.mp h))
  by_cases e1_103 : k = nI 103
  · subst e1_103
    refine lv_tableIn (tgt := 84) hxe hcd dX10_isAllowed_1 (by decide) (by decide) (by first | rfl | decide) (by decide) ?_
    refine lv_iload_n hxe hcd dX10_isAllowed_84 rfl (lv_at hl 1 rfl) ?_
    refine lv_iconst (v := (nI 0)) hxe hcd dX10_isAllowed_85 (by decide) ?_
    refine lv_sipush (v := (nI 200)) hxe hcd dX10_isAllowed_86 (by decide) ?_
    refine r_calli0 (r_runS hZ S hW (As := [.int x, .int (nI 0), .int (nI 200)]) (rest := []) (t_X10_isIn l hZ L A E s.heap.size x (nI 0) (nI 200)) k_X10_63 (hl.1) rfl rfl (Nat.le_of_ble_eq_true rfl) ⟨Nat.le_of_ble_eq_true rfl, Nat.le_of_ble_eq_true rfl⟩ ⟨Nat.le_of_ble_eq_true rfl, Nat.le_of_ble_eq_true rfl⟩ dX10_isAllowed_89) hW (fun r89 H locs hp89 hW => ?_)
    rcases hp89 with ⟨hp890, hp89⟩ | ⟨hp890, hp89⟩
    · subst hp890
      refine r_zret0 S hr hlk hW (by decide +kernel) ?_ dX10_isAllowed_92
      first | exact BP_t (KP_103.mpr hp89) | exact BP_f (fun h => hp89 (KP_103.mp h))
    · subst hp890
      refine r_zret0 S hr hlk hW (by decide +kernel) ?_ dX10_isAllowed_92
      first | exact BP_t (KP_103.mpr hp89) | exact BP_f (fun h => hp89 (KP_103.mp h))
  by_cases e1_109 : k = nI 109
  · subst e1_109
    refine lv_tableIn (tgt := 101) hxe hcd dX10_isAllowed_1 (by decide) (by decide) (by first | rfl | decide) (by decide) ?_
    refine lv_iload_n hxe hcd dX10_isAllowed_101 rfl (lv_at hl 1 rfl) ?_
    refine lv_iconst (v := (nI 2)) hxe hcd dX10_isAllowed_102 (by decide) ?_
    refine lv_bipush (v := (nI 8)) hxe hcd dX10_isAllowed_103 (by decide) ?_
    refine r_calli0 (r_runS hZ S hW (As := [.int x, .int (nI 2), .int (nI 8)]) (rest := []) (t_X10_isIn l hZ L A E s.heap.size x (nI 2) (nI 8)) k_X10_63 (hl.1) rfl rfl (Nat.le_of_ble_eq_true rfl) ⟨Nat.le_of_ble_eq_true rfl, Nat.le_of_ble_eq_true rfl⟩ ⟨Nat.le_of_ble_eq_true rfl, Nat.le_of_ble_eq_true rfl⟩ dX10_isAllowed_105) hW (fun r105 H locs hp105 hW => ?_)
    rcases hp105 with ⟨hp1050, hp105⟩ | ⟨hp1050, hp105⟩
    · subst hp1050
      refine r_zret0 S hr hlk hW (by decide +kernel) ?_ dX10_isAllowed_108
      first | exact BP_t (KP_109.mpr hp105) | exact BP_f (fun h => hp105 (KP_109.mp h))
    · subst hp1050
      refine r_zret0 S hr hlk hW (by decide +kernel) ?_ dX10_isAllowed_108
      first | exact BP_t (KP_109.mpr hp105) | exact BP_f (fun h => hp105 (KP_109.mp h))
  by_cases e1_115 : k = nI 115
  · subst e1_115
    refine lv_tableIn (tgt := 128) hxe hcd dX10_isAllowed_1 (by decide) (by decide) (by first | rfl | decide) (by decide) ?_
    refine lv_iload_n hxe hcd dX10_isAllowed_128 rfl (lv_at hl 1 rfl) ?_
    refine lv_iconst (v := (nI 2)) hxe hcd dX10_isAllowed_129 (by decide) ?_
    refine lv_bipush (v := (nI 99)) hxe hcd dX10_isAllowed_130 (by decide) ?_
    refine r_calli0 (r_runS hZ S hW (As := [.int x, .int (nI 2), .int (nI 99)]) (rest := []) (t_X10_isIn l hZ L A E s.heap.size x (nI 2) (nI 99)) k_X10_63 (hl.1) rfl rfl (Nat.le_of_ble_eq_true rfl) ⟨Nat.le_of_ble_eq_true rfl, Nat.le_of_ble_eq_true rfl⟩ ⟨Nat.le_of_ble_eq_true rfl, Nat.le_of_ble_eq_true rfl⟩ dX10_isAllowed_132) hW (fun r132 H locs hp132 hW => ?_)
    rcases hp132 with ⟨hp1320, hp132⟩ | ⟨hp1320, hp132⟩
    · subst hp1320
      refine r_zret0 S hr hlk hW (by decide +kernel) ?_ dX10_isAllowed_135
      first | exact BP_t (KP_115.mpr hp132) | exact BP_f (fun h => hp132 (KP_115.mp h))
    · subst hp1320
      refine r_zret0 S hr hlk hW (by decide +kernel) ?_ dX10_isAllowed_135
      first | exact BP_t (KP_115.mpr hp132) | exact BP_f (fun h => hp132 (KP_115.mp h))
  refine r_swD S (tgt := 136) dX10_isAllowed_1 [99, 100, 102, 103, 109, 115] (by intro k hk; simp only [List.mem_cons, List.not_mem_nil, or_false] at hk; rcases hk with rfl | rfl | rfl | rfl | rfl | rfl <;> first | exact ne_toInt e1_99 (by decide) | exact ne_toInt e1_100 (by decide) | exact ne_toInt e1_102 (by decide) | exact ne_toInt e1_103 (by decide) | exact ne_toInt e1_109 (by decide) | exact ne_toInt e1_115 (by decide)) (by decide) (by decide) (by decide) ?_
  refine lv_iconst (v := (nI 0)) hxe hcd dX10_isAllowed_136 (by decide) ?_
  refine r_zret0 S hr hlk hW (by decide +kernel) ?_ dX10_isAllowed_137
  exact BP_f (KP_no e1_103 e1_100 e1_109 e1_99 e1_102 e1_115)
