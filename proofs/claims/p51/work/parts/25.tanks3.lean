set_option maxHeartbeats 4000000 in
set_option maxRecDepth 100000 in
theorem t_X7_takeFrames (l : Launch) {Z : ZT} (hZ : zOK Z) (A : Nat × Nat → Nat) (g : Nat → Bool) (μ : CM) (sz : Nat) {b : Nat} (hb : tB g b) {q j n : Nat} (hq : q < 4) (hn : μ b 12 q = nI n) (h9 : n ≤ 9) (hj : j ≤ n) : XMi l yX7_takeFrames cX7_takeFrames 6 (some .int) 2 [.ref (A (b, 9)), .int (nI q), .int (nI j)] Z (ids g) A (cE Z A g) μ sz (fun r u => r = maxR (fun k => μ b 13 (q * 9 + k)) j ∧ u = up2 (up2 (up2 μ b 13 (tkR (μ b 13) (q * 9) j (n - j))) b 12 (upd (μ b 12) q (nI (n - j)))) b 9 (upd (μ b 9) 7 (μ b 9 7 + nI j))) := by
  refine r_met (E := (cE Z A g μ)) (by decide +kernel) (Nat.le_of_ble_eq_true rfl) ?_
  intro p e s m below meth c ls S hr hlk hnm hsz hW hl
  have hxe := S.1
  have hcd := S.2.1
  subst hsz
  have hl : lv_has ls 6 [(0, .ref (A (b, 9))), (1, .int (nI q)), (2, .int (nI j))] := hl
  refine lv_iconst (v := (nI 0)) hxe hcd dX7_takeFrames_0 (by decide) ?_
  refine lv_istore_n (lv' := [(3, .int (nI 0)), (0, .ref (A (b, 9))), (1, .int (nI q)), (2, .int (nI j))]) hxe hcd dX7_takeFrames_1 rfl hl (by decide) rfl (fun ls hl => ?_)
  refine lv_iconst (v := (nI 0)) hxe hcd dX7_takeFrames_2 (by decide) ?_
  refine lv_istore (lv' := [(4, .int (nI 0)), (3, .int (nI 0)), (0, .ref (A (b, 9))), (1, .int (nI q)), (2, .int (nI j))]) hxe hcd dX7_takeFrames_3 hl (by decide) rfl (fun ls hl => ?_)
  have loop5 : ∀ (n_ : Nat) (i : Nat), j - i < n_ → (i ≤ j) → ∀ (H : Heap) (locs : List Loc) (ls : Array Slot), wX Z (ids g) A (cE Z A g μ) (fA (ids g) A (cE Z A g μ) s.heap.size) s H locs → lv_has ls 6 [(0, .ref (A (b, 9))), (1, .int (nI q)), (2, .int (nI j)), (3, .int (maxR (fun k => μ b 13 (q * 9 + k)) i)), (4, .int (nI i))] → W p l e (rmD 2 0 0) s m ([.ref (A (b, 9)), .int (nI q), .int (nI j)] : List Value).toArray below meth c H locs 0 0 (MQ below (va_Qi (fun r u => r = maxR (fun k => μ b 13 (q * 9 + k)) j ∧ u = up2 (up2 (up2 μ b 13 (tkR (μ b 13) (q * 9) j (n - j))) b 12 (upd (μ b 12) q (nI (n - j)))) b 9 (upd (μ b 9) 7 (μ b 9 7 + nI j))) (fun u t => qB Z (ids g) A ((cE Z A g) u) (fA (ids g) A (cE Z A g μ) s.heap.size) t) (fA (ids g) A (cE Z A g μ) s.heap.size)) ([.ref (A (b, 9)), .int (nI q), .int (nI j)] : List Value).toArray s 0 0 (fA (ids g) A (cE Z A g μ) s.heap.size)) (F0 m 5 ls []) := by
    intro n_
    induction n_ with
    | zero => intro i hm; exact absurd hm (Nat.not_lt_zero _)
    | succ n_ ih5 =>
      intro i hm hi H locs ls hW hl
      refine lv_iload hxe hcd dX7_takeFrames_5 (lv_at hl 4 rfl) ?_
      refine lv_iload_n hxe hcd dX7_takeFrames_7 rfl (lv_at hl 2 rfl) ?_
      refine n_ge S (a := i) (b := j) (by omega) (by omega) dX7_takeFrames_8 (tgt := 29) (by decide) (fun c8 => ?_) (fun c8 => ?_)
      · refine lv_aload_n hxe hcd dX7_takeFrames_29 rfl (lv_at hl 0 rfl) ?_
        refine lv_iload_n hxe hcd dX7_takeFrames_30 rfl (lv_at hl 1 rfl) ?_
        refine r_calli0 (r_runV hZ S hW (As := [.int (nI q)]) (rest := []) (t_X7_levelOf l hZ A g μ H.size hb (nI q)) k_X7_57 (r_recv hW (x := (b, 9)) (in_t hb (by decide) (by decide)) rfl rfl) (hl.1) rfl rfl (Nat.le_of_ble_eq_true rfl) ⟨Nat.le_of_ble_eq_true rfl, Nat.le_of_ble_eq_true rfl⟩ ⟨Nat.le_of_ble_eq_true rfl, Nat.le_of_ble_eq_true rfl⟩ dX7_takeFrames_31) hW (fun r31 H locs hp31 hW => ?_)
        have hp31 := hp31.symm
        subst hp31
        refine r_as (y := (μ b 12 q)) (rd_in (n := 4) (k := q) _ (by omega) (by decide)) ?_
        refine r_as (y := (nI n)) (hn) ?_
        refine lv_iload_n hxe hcd dX7_takeFrames_34 rfl (lv_at hl 2 rfl) ?_
        refine n_isub S (a := n) (b := j) (by omega) dX7_takeFrames_35 ?_
        refine lv_istore (lv' := [(4, .int (nI (n - j))), (0, .ref (A (b, 9))), (1, .int (nI q)), (2, .int (nI j)), (3, .int (maxR (fun k => μ b 13 (q * 9 + k)) i))]) hxe hcd dX7_takeFrames_36 hl (by decide) rfl (fun ls hl => ?_)
        refine lv_iconst (v := (nI 0)) hxe hcd dX7_takeFrames_38 (by decide) ?_
        refine lv_istore (lv' := [(5, .int (nI 0)), (4, .int (nI (n - j))), (0, .ref (A (b, 9))), (1, .int (nI q)), (2, .int (nI j)), (3, .int (maxR (fun k => μ b 13 (q * 9 + k)) i))]) hxe hcd dX7_takeFrames_39 hl (by decide) rfl (fun ls hl => ?_)
        have loop41 : ∀ (n_ : Nat) (k : Nat), n - j - k < n_ → (k ≤ n - j) → ∀ (H : Heap) (locs : List Loc) (ls : Array Slot), wX Z (ids g) A (cE Z A g (up2 μ b 13 (tkR (μ b 13) (q * 9) j k))) (fA (ids g) A (cE Z A g μ) s.heap.size) s H locs → lv_has ls 6 [(0, .ref (A (b, 9))), (1, .int (nI q)), (2, .int (nI j)), (3, .int (maxR (fun k => μ b 13 (q * 9 + k)) i)), (4, .int (nI (n - j))), (5, .int (nI k))] → W p l e (rmD 2 0 0) s m ([.ref (A (b, 9)), .int (nI q), .int (nI j)] : List Value).toArray below meth c H locs 0 0 (MQ below (va_Qi (fun r u => r = maxR (fun k => μ b 13 (q * 9 + k)) j ∧ u = up2 (up2 (up2 μ b 13 (tkR (μ b 13) (q * 9) j (n - j))) b 12 (upd (μ b 12) q (nI (n - j)))) b 9 (upd (μ b 9) 7 (μ b 9 7 + nI j))) (fun u t => qB Z (ids g) A ((cE Z A g) u) (fA (ids g) A (cE Z A g μ) s.heap.size) t) (fA (ids g) A (cE Z A g μ) s.heap.size)) ([.ref (A (b, 9)), .int (nI q), .int (nI j)] : List Value).toArray s 0 0 (fA (ids g) A (cE Z A g μ) s.heap.size)) (F0 m 41 ls []) := by
          intro n_
          induction n_ with
          | zero => intro k hm; exact absurd hm (Nat.not_lt_zero _)
          | succ n_ ih41 =>
            intro k hm hk H locs ls hW hl
            refine lv_iload hxe hcd dX7_takeFrames_41 (lv_at hl 5 rfl) ?_
            refine lv_iload hxe hcd dX7_takeFrames_43 (lv_at hl 4 rfl) ?_
            refine n_ge S (a := k) (b := (n - j)) (by omega) (by omega) dX7_takeFrames_45 (tgt := 70) (by decide) (fun c45 => ?_) (fun c45 => ?_)
            · refine lv_aload_n hxe hcd dX7_takeFrames_70 rfl (lv_at hl 0 rfl) ?_
              refine gf_X7_18 S hW hb dX7_takeFrames_71 ?_
              refine lv_iload_n hxe hcd dX7_takeFrames_74 rfl (lv_at hl 1 rfl) ?_
              refine lv_iload hxe hcd dX7_takeFrames_75 (lv_at hl 4 rfl) ?_
              refine r_callv (F := (cE Z A g)) (r_runSN hZ S hW (As := [.ref (A (b, 12)), .int (nI q), .int (nI (n - j))]) (rest := []) (t_X9_write l hZ A g (up2 μ b 13 (tkR (μ b 13) (q * 9) j k)) H.size (b := b) (o := 12) (n := 4) rfl (in_t hb (by decide) (by decide)) (nI q) (nI (n - j))) k_X7_45 (hl.1) rfl rfl (Nat.le_of_ble_eq_true rfl) ⟨Nat.le_of_ble_eq_true rfl, Nat.le_of_ble_eq_true rfl⟩ ⟨Nat.le_of_ble_eq_true rfl, Nat.le_of_ble_eq_true rfl⟩ dX7_takeFrames_77) hW (fun u77 H locs hp77 hW => ?_)
              have hp77 := hp77.symm
              subst hp77
              refine lv_aload_n hxe hcd dX7_takeFrames_80 rfl (lv_at hl 0 rfl) ?_
              refine lv_dup hxe hcd dX7_takeFrames_81 rfl ?_
              refine gf_X7_34 S hW hb dX7_takeFrames_82 ?_
              refine lv_iload_n hxe hcd dX7_takeFrames_85 rfl (lv_at hl 2 rfl) ?_
              refine lv_iadd hxe hcd dX7_takeFrames_86 ?_
              refine gp_X7_34 S hW hb dX7_takeFrames_87 (fun H locs hW => ?_)
              refine lv_iload_n hxe hcd dX7_takeFrames_90 rfl (lv_at hl 3 rfl) ?_
              refine r_iret S hr hlk (F := (cE Z A g)) (u := (up2 (up2 (up2 μ b 13 (tkR (μ b 13) (q * 9) j k)) b 12 (wr 4 ((up2 μ b 13 (tkR (μ b 13) (q * 9) j k)) b 12) (nI q) (nI (n - j)))) b 9 (upd ((up2 (up2 μ b 13 (tkR (μ b 13) (q * 9) j k)) b 12 (wr 4 ((up2 μ b 13 (tkR (μ b 13) (q * 9) j k)) b 12) (nI q) (nI (n - j)))) b 9) 7 (((up2 (up2 μ b 13 (tkR (μ b 13) (q * 9) j k)) b 12 (wr 4 ((up2 μ b 13 (tkR (μ b 13) (q * 9) j k)) b 12) (nI q) (nI (n - j)))) b 9 7) + (nI j))))) hW ?_ dX7_takeFrames_91
              have e : i = j := by omega
              have e2 : k = n - j := by omega
              rw [e, e2]
              refine ⟨rfl, ?_⟩
              rw [up2_o (o2 := 9) (o := 12) (by decide), up2_o (o2 := 9) (o := 13) (by decide), up2_o (o2 := 12) (o := 13) (by decide), wr_in (n := 4) (k := q) _ _ (by omega) (by decide)]
            · refine lv_aload_n hxe hcd dX7_takeFrames_48 rfl (lv_at hl 0 rfl) ?_
              refine lv_iload_n hxe hcd dX7_takeFrames_49 rfl (lv_at hl 1 rfl) ?_
              refine lv_iload hxe hcd dX7_takeFrames_50 (lv_at hl 5 rfl) ?_
              refine lv_aload_n hxe hcd dX7_takeFrames_52 rfl (lv_at hl 0 rfl) ?_
              refine lv_iload_n hxe hcd dX7_takeFrames_53 rfl (lv_at hl 1 rfl) ?_
              refine lv_iload hxe hcd dX7_takeFrames_54 (lv_at hl 5 rfl) ?_
              refine lv_iload_n hxe hcd dX7_takeFrames_56 rfl (lv_at hl 2 rfl) ?_
              refine n_iadd S (a := k) (b := j) dX7_takeFrames_57 ?_
              refine r_calli0 (r_runV hZ S hW (As := [.int (nI q), .int (nI (k + j))]) (rest := [.int (nI k), .int (nI q), .ref (A (b, 9))]) (t_X7_frameAt l hZ A g (up2 μ b 13 (tkR (μ b 13) (q * 9) j k)) H.size hb (q := q) (i := (k + j)) (by omega) (by omega)) k_X7_77 (r_recv hW (x := (b, 9)) (in_t hb (by decide) (by decide)) rfl rfl) (hl.1) rfl rfl (Nat.le_of_ble_eq_true rfl) ⟨Nat.le_of_ble_eq_true rfl, Nat.le_of_ble_eq_true rfl⟩ ⟨Nat.le_of_ble_eq_true rfl, Nat.le_of_ble_eq_true rfl⟩ dX7_takeFrames_58) hW (fun r58 H locs hp58 hW => ?_)
              have hp58 := hp58.symm
              subst hp58
              refine r_callv (F := (cE Z A g)) (r_runV hZ S hW (As := [.int (nI q), .int (nI k), .int ((up2 μ b 13 (tkR (μ b 13) (q * 9) j k)) b 13 (q * 9 + (k + j)))]) (rest := []) (t_X7_setFrame l hZ A g (up2 μ b 13 (tkR (μ b 13) (q * 9) j k)) H.size hb (q := q) (i := k) (by omega) (by omega) ((up2 μ b 13 (tkR (μ b 13) (q * 9) j k)) b 13 (q * 9 + (k + j)))) k_X7_70 (r_recv hW (x := (b, 9)) (in_t hb (by decide) (by decide)) rfl rfl) (hl.1) rfl rfl (Nat.le_of_ble_eq_true rfl) ⟨Nat.le_of_ble_eq_true rfl, Nat.le_of_ble_eq_true rfl⟩ ⟨Nat.le_of_ble_eq_true rfl, Nat.le_of_ble_eq_true rfl⟩ dX7_takeFrames_61) hW (fun u61 H locs hp61 hW => ?_)
              have hp61 := hp61.symm
              subst hp61
              refine lv_iinc (v := (nI (k + 1))) (lv' := [(5, .int (nI (k + 1))), (0, .ref (A (b, 9))), (1, .int (nI q)), (2, .int (nI j)), (3, .int (maxR (fun k => μ b 13 (q * 9 + k)) i)), (4, .int (nI (n - j)))]) hxe hcd dX7_takeFrames_64 hl (k := 5) rfl (nI_add k 1) (by decide) rfl (fun ls hl => ?_)
              refine lv_goto (tgt := 41) hxe hcd dX7_takeFrames_67 (by decide) ?_
              exact ih41 (k + 1) (by omega) (by omega) _ _ _ (by rw [up2_s, up2_2, tkR_step] at hW; exact hW) (lv_sub hl [1, 2, 3, 4, 5, 0] rfl)
        exact loop41 ((n - j) + 1) 0 (Nat.lt_succ_self _) (Nat.zero_le _) _ _ _ (by rw [tkR_0, up2_id]; exact hW) (lv_sub hl [2, 3, 4, 5, 1, 0] rfl)
      · refine lv_iload_n hxe hcd dX7_takeFrames_11 rfl (lv_at hl 3 rfl) ?_
        refine lv_aload_n hxe hcd dX7_takeFrames_12 rfl (lv_at hl 0 rfl) ?_
        refine lv_iload_n hxe hcd dX7_takeFrames_13 rfl (lv_at hl 1 rfl) ?_
        refine lv_iload hxe hcd dX7_takeFrames_14 (lv_at hl 4 rfl) ?_
        refine r_calli0 (r_runV hZ S hW (As := [.int (nI q), .int (nI i)]) (rest := [.int (maxR (fun k => μ b 13 (q * 9 + k)) i)]) (t_X7_frameAt l hZ A g μ H.size hb (q := q) (i := i) (by omega) (by omega)) k_X7_77 (r_recv hW (x := (b, 9)) (in_t hb (by decide) (by decide)) rfl rfl) (hl.1) rfl rfl (Nat.le_of_ble_eq_true rfl) ⟨Nat.le_of_ble_eq_true rfl, Nat.le_of_ble_eq_true rfl⟩ ⟨Nat.le_of_ble_eq_true rfl, Nat.le_of_ble_eq_true rfl⟩ dX7_takeFrames_16) hW (fun r16 H locs hp16 hW => ?_)
        have hp16 := hp16.symm
        subst hp16
        refine r_max S hl.1 g_826 g_333 (Nat.le_of_ble_eq_true rfl) (Nat.le_of_ble_eq_true rfl) (Nat.le_of_ble_eq_true rfl) (Nat.le_of_ble_eq_true rfl) dX7_takeFrames_19 ?_
        refine lv_istore_n (lv' := [(3, .int (imax (maxR (fun k => μ b 13 (q * 9 + k)) i) (μ b 13 (q * 9 + i)))), (0, .ref (A (b, 9))), (1, .int (nI q)), (2, .int (nI j)), (4, .int (nI i))]) hxe hcd dX7_takeFrames_22 rfl hl (by decide) rfl (fun ls hl => ?_)
        refine lv_iinc (v := (nI (i + 1))) (lv' := [(4, .int (nI (i + 1))), (3, .int (imax (maxR (fun k => μ b 13 (q * 9 + k)) i) (μ b 13 (q * 9 + i)))), (0, .ref (A (b, 9))), (1, .int (nI q)), (2, .int (nI j))]) hxe hcd dX7_takeFrames_23 hl (k := 4) rfl (nI_add i 1) (by decide) rfl (fun ls hl => ?_)
        refine lv_goto (tgt := 5) hxe hcd dX7_takeFrames_26 (by decide) ?_
        have hl : lv_has ls 6 [(4, .int (nI (i + 1))), (3, .int (maxR (fun k => μ b 13 (q * 9 + k)) (i + 1))), (0, .ref (A (b, 9))), (1, .int (nI q)), (2, .int (nI j))] := by
          exact lv_sub hl [0, 1, 2, 3, 4] rfl
        exact ih5 (i + 1) (by omega) (by omega) _ _ _ hW (lv_sub hl [2, 3, 4, 1, 0] rfl)
  exact loop5 (j + 1) 0 (Nat.lt_succ_self _) (Nat.zero_le _) _ _ _ hW (lv_sub hl [2, 3, 4, 1, 0] rfl)
set_option maxHeartbeats 4000000 in
set_option maxRecDepth 100000 in
theorem t_X7_isAhead (l : Launch) {Z : ZT} (hZ : zOK Z) (A : Nat × Nat → Nat) (g : Nat → Bool) (μ : CM) (sz : Nat) {b : Nat} (hb : tB g b) {q p2 : Nat} (hq : q < 4) (hp2 : p2 < 4) : XCi l yX7_isAhead cX7_isAhead 3 (some .boolean) 2 [.ref (A (b, 9)), .int (nI q), .int (nI p2)] Z (ids g) A (cE Z A g μ) sz (fun r => BP r (AH (μ b 10) (μ b 12) q p2)) := by
  refine r_met (E := (cE Z A g μ)) (by decide +kernel) (Nat.le_of_ble_eq_true rfl) ?_
  intro p e s m below meth c ls S hr hlk hnm hsz hW hl
  have hxe := S.1
  have hcd := S.2.1
  subst hsz
  have hl : lv_has ls 3 [(0, .ref (A (b, 9))), (1, .int (nI q)), (2, .int (nI p2))] := hl
  refine lv_aload_n hxe hcd dX7_isAhead_0 rfl (lv_at hl 0 rfl) ?_
  refine lv_iload_n hxe hcd dX7_isAhead_1 rfl (lv_at hl 1 rfl) ?_
  refine r_calli0 (r_runV hZ S hW (As := [.int (nI q)]) (rest := []) (t_X7_levelOf l hZ A g μ s.heap.size hb (nI q)) k_X7_57 (r_recv hW (x := (b, 9)) (in_t hb (by decide) (by decide)) rfl rfl) (hl.1) rfl rfl (Nat.le_of_ble_eq_true rfl) ⟨Nat.le_of_ble_eq_true rfl, Nat.le_of_ble_eq_true rfl⟩ ⟨Nat.le_of_ble_eq_true rfl, Nat.le_of_ble_eq_true rfl⟩ dX7_isAhead_2) hW (fun r2 H locs hp2 hW => ?_)
  have hp2 := hp2.symm
  subst hp2
  refine r_as (y := (μ b 12 q)) (rd_in (n := 4) (k := q) _ (by omega) (by decide)) ?_
  refine lv_aload_n hxe hcd dX7_isAhead_5 rfl (lv_at hl 0 rfl) ?_
  refine lv_iload_n hxe hcd dX7_isAhead_6 rfl (lv_at hl 2 rfl) ?_
  refine r_calli0 (r_runV hZ S hW (As := [.int (nI p2)]) (rest := [.int (μ b 12 q)]) (t_X7_levelOf l hZ A g μ H.size hb (nI p2)) k_X7_57 (r_recv hW (x := (b, 9)) (in_t hb (by decide) (by decide)) rfl rfl) (hl.1) rfl rfl (Nat.le_of_ble_eq_true rfl) ⟨Nat.le_of_ble_eq_true rfl, Nat.le_of_ble_eq_true rfl⟩ ⟨Nat.le_of_ble_eq_true rfl, Nat.le_of_ble_eq_true rfl⟩ dX7_isAhead_7) hW (fun r7 H locs hp7 hW => ?_)
  have hp7 := hp7.symm
  subst hp7
  refine r_as (y := (μ b 12 p2)) (rd_in (n := 4) (k := p2) _ (by omega) (by decide)) ?_
  refine lv_icmp_eq (tgt := 32) hxe hcd dX7_isAhead_10 (by decide) (fun c10 => ?_) (fun c10 => ?_)
  · refine lv_aload_n hxe hcd dX7_isAhead_32 rfl (lv_at hl 0 rfl) ?_
    refine lv_iload_n hxe hcd dX7_isAhead_33 rfl (lv_at hl 1 rfl) ?_
    refine r_calli0 (r_runV hZ S hW (As := [.int (nI q)]) (rest := []) (t_X7_capacityOf l hZ A g μ H.size hb (nI q)) k_X7_74 (r_recv hW (x := (b, 9)) (in_t hb (by decide) (by decide)) rfl rfl) (hl.1) rfl rfl (Nat.le_of_ble_eq_true rfl) ⟨Nat.le_of_ble_eq_true rfl, Nat.le_of_ble_eq_true rfl⟩ ⟨Nat.le_of_ble_eq_true rfl, Nat.le_of_ble_eq_true rfl⟩ dX7_isAhead_34) hW (fun r34 H locs hp34 hW => ?_)
    have hp34 := hp34.symm
    subst hp34
    refine r_as (y := (μ b 10 q)) (rd_in (n := 4) (k := q) _ (by omega) (by decide)) ?_
    refine lv_aload_n hxe hcd dX7_isAhead_37 rfl (lv_at hl 0 rfl) ?_
    refine lv_iload_n hxe hcd dX7_isAhead_38 rfl (lv_at hl 2 rfl) ?_
    refine r_calli0 (r_runV hZ S hW (As := [.int (nI p2)]) (rest := [.int (μ b 10 q)]) (t_X7_capacityOf l hZ A g μ H.size hb (nI p2)) k_X7_74 (r_recv hW (x := (b, 9)) (in_t hb (by decide) (by decide)) rfl rfl) (hl.1) rfl rfl (Nat.le_of_ble_eq_true rfl) ⟨Nat.le_of_ble_eq_true rfl, Nat.le_of_ble_eq_true rfl⟩ ⟨Nat.le_of_ble_eq_true rfl, Nat.le_of_ble_eq_true rfl⟩ dX7_isAhead_39) hW (fun r39 H locs hp39 hW => ?_)
    have hp39 := hp39.symm
    subst hp39
    refine r_as (y := (μ b 10 p2)) (rd_in (n := 4) (k := p2) _ (by omega) (by decide)) ?_
    refine lv_icmp_eq (tgt := 64) hxe hcd dX7_isAhead_42 (by decide) (fun c42 => ?_) (fun c42 => ?_)
    · refine lv_iload_n hxe hcd dX7_isAhead_64 rfl (lv_at hl 1 rfl) ?_
      refine lv_iload_n hxe hcd dX7_isAhead_65 rfl (lv_at hl 2 rfl) ?_
      refine n_ge S (a := q) (b := p2) (by omega) (by omega) dX7_isAhead_66 (tgt := 73) (by decide) (fun c66 => ?_) (fun c66 => ?_)
      · refine lv_iconst (v := (nI 0)) hxe hcd dX7_isAhead_73 (by decide) ?_
        refine r_zret0 S hr hlk hW (by decide +kernel) ?_ dX7_isAhead_74
        exact BP_f (fun h => by rw [AH, if_pos c10, if_pos c42] at h; omega)
      · refine lv_iconst (v := (nI 1)) hxe hcd dX7_isAhead_69 (by decide) ?_
        refine lv_goto (tgt := 74) hxe hcd dX7_isAhead_70 (by decide) ?_
        refine r_zret0 S hr hlk hW (by decide +kernel) ?_ dX7_isAhead_74
        exact BP_t (by rw [AH, if_pos c10, if_pos c42]; omega)
    · refine lv_aload_n hxe hcd dX7_isAhead_45 rfl (lv_at hl 0 rfl) ?_
      refine lv_iload_n hxe hcd dX7_isAhead_46 rfl (lv_at hl 1 rfl) ?_
      refine r_calli0 (r_runV hZ S hW (As := [.int (nI q)]) (rest := []) (t_X7_capacityOf l hZ A g μ H.size hb (nI q)) k_X7_74 (r_recv hW (x := (b, 9)) (in_t hb (by decide) (by decide)) rfl rfl) (hl.1) rfl rfl (Nat.le_of_ble_eq_true rfl) ⟨Nat.le_of_ble_eq_true rfl, Nat.le_of_ble_eq_true rfl⟩ ⟨Nat.le_of_ble_eq_true rfl, Nat.le_of_ble_eq_true rfl⟩ dX7_isAhead_47) hW (fun r47 H locs hp47 hW => ?_)
      have hp47 := hp47.symm
      subst hp47
      refine r_as (y := (μ b 10 q)) (rd_in (n := 4) (k := q) _ (by omega) (by decide)) ?_
      refine lv_aload_n hxe hcd dX7_isAhead_50 rfl (lv_at hl 0 rfl) ?_
      refine lv_iload_n hxe hcd dX7_isAhead_51 rfl (lv_at hl 2 rfl) ?_
      refine r_calli0 (r_runV hZ S hW (As := [.int (nI p2)]) (rest := [.int (μ b 10 q)]) (t_X7_capacityOf l hZ A g μ H.size hb (nI p2)) k_X7_74 (r_recv hW (x := (b, 9)) (in_t hb (by decide) (by decide)) rfl rfl) (hl.1) rfl rfl (Nat.le_of_ble_eq_true rfl) ⟨Nat.le_of_ble_eq_true rfl, Nat.le_of_ble_eq_true rfl⟩ ⟨Nat.le_of_ble_eq_true rfl, Nat.le_of_ble_eq_true rfl⟩ dX7_isAhead_52) hW (fun r52 H locs hp52 hW => ?_)
      have hp52 := hp52.symm
      subst hp52
      refine r_as (y := (μ b 10 p2)) (rd_in (n := 4) (k := p2) _ (by omega) (by decide)) ?_
      refine lv_icmp_ge (tgt := 62) hxe hcd dX7_isAhead_55 (by decide) (fun c55 => ?_) (fun c55 => ?_)
      · refine lv_iconst (v := (nI 0)) hxe hcd dX7_isAhead_62 (by decide) ?_
        refine r_zret0 S hr hlk hW (by decide +kernel) ?_ dX7_isAhead_63
        exact BP_f (fun h => by rw [AH, if_pos c10, if_neg c42] at h; exact I_nlt.mpr c55 h)
      · refine lv_iconst (v := (nI 1)) hxe hcd dX7_isAhead_58 (by decide) ?_
        refine lv_goto (tgt := 63) hxe hcd dX7_isAhead_59 (by decide) ?_
        refine r_zret0 S hr hlk hW (by decide +kernel) ?_ dX7_isAhead_63
        exact BP_t (by rw [AH, if_pos c10, if_neg c42]; exact I_nle.mp c55)
  · refine lv_aload_n hxe hcd dX7_isAhead_13 rfl (lv_at hl 0 rfl) ?_
    refine lv_iload_n hxe hcd dX7_isAhead_14 rfl (lv_at hl 1 rfl) ?_
    refine r_calli0 (r_runV hZ S hW (As := [.int (nI q)]) (rest := []) (t_X7_levelOf l hZ A g μ H.size hb (nI q)) k_X7_57 (r_recv hW (x := (b, 9)) (in_t hb (by decide) (by decide)) rfl rfl) (hl.1) rfl rfl (Nat.le_of_ble_eq_true rfl) ⟨Nat.le_of_ble_eq_true rfl, Nat.le_of_ble_eq_true rfl⟩ ⟨Nat.le_of_ble_eq_true rfl, Nat.le_of_ble_eq_true rfl⟩ dX7_isAhead_15) hW (fun r15 H locs hp15 hW => ?_)
    have hp15 := hp15.symm
    subst hp15
    refine r_as (y := (μ b 12 q)) (rd_in (n := 4) (k := q) _ (by omega) (by decide)) ?_
    refine lv_aload_n hxe hcd dX7_isAhead_18 rfl (lv_at hl 0 rfl) ?_
    refine lv_iload_n hxe hcd dX7_isAhead_19 rfl (lv_at hl 2 rfl) ?_
    refine r_calli0 (r_runV hZ S hW (As := [.int (nI p2)]) (rest := [.int (μ b 12 q)]) (t_X7_levelOf l hZ A g μ H.size hb (nI p2)) k_X7_57 (r_recv hW (x := (b, 9)) (in_t hb (by decide) (by decide)) rfl rfl) (hl.1) rfl rfl (Nat.le_of_ble_eq_true rfl) ⟨Nat.le_of_ble_eq_true rfl, Nat.le_of_ble_eq_true rfl⟩ ⟨Nat.le_of_ble_eq_true rfl, Nat.le_of_ble_eq_true rfl⟩ dX7_isAhead_20) hW (fun r20 H locs hp20 hW => ?_)
    have hp20 := hp20.symm
    subst hp20
    refine r_as (y := (μ b 12 p2)) (rd_in (n := 4) (k := p2) _ (by omega) (by decide)) ?_
    refine lv_icmp_le (tgt := 30) hxe hcd dX7_isAhead_23 (by decide) (fun c23 => ?_) (fun c23 => ?_)
    · refine lv_iconst (v := (nI 0)) hxe hcd dX7_isAhead_30 (by decide) ?_
      refine r_zret0 S hr hlk hW (by decide +kernel) ?_ dX7_isAhead_31
      exact BP_f (fun h => by rw [AH, if_neg c10] at h; exact I_nlt.mpr c23 h)
    · refine lv_iconst (v := (nI 1)) hxe hcd dX7_isAhead_26 (by decide) ?_
      refine lv_goto (tgt := 31) hxe hcd dX7_isAhead_27 (by decide) ?_
      refine r_zret0 S hr hlk hW (by decide +kernel) ?_ dX7_isAhead_31
      exact BP_t (by rw [AH, if_neg c10]; exact I_nle.mp c23)
set_option maxHeartbeats 4000000 in
set_option maxRecDepth 100000 in
theorem t_X7_tanksAheadOf (l : Launch) {Z : ZT} (hZ : zOK Z) (A : Nat × Nat → Nat) (g : Nat → Bool) (μ : CM) (sz : Nat) {b : Nat} (hb : tB g b) {nt : Nat} (hc : μ b 9 4 = nI nt) (h4 : nt ≤ 4) {q : Nat} (hq : q < 4) : XCi l yX7_tanksAheadOf cX7_tanksAheadOf 4 (some .int) 3 [.ref (A (b, 9)), .int (nI q)] Z (ids g) A (cE Z A g μ) sz (fun r => r = nI (ahN (μ b 10) (μ b 12) q nt)) := by
  refine r_met (E := (cE Z A g μ)) (by decide +kernel) (Nat.le_of_ble_eq_true rfl) ?_
  intro p e s m below meth c ls S hr hlk hnm hsz hW hl
  have hxe := S.1
  have hcd := S.2.1
  subst hsz
  have hl : lv_has ls 4 [(0, .ref (A (b, 9))), (1, .int (nI q))] := hl
  refine lv_iconst (v := (nI 0)) hxe hcd dX7_tanksAheadOf_0 (by decide) ?_
  refine lv_istore_n (lv' := [(2, .int (nI 0)), (0, .ref (A (b, 9))), (1, .int (nI q))]) hxe hcd dX7_tanksAheadOf_1 rfl hl (by decide) rfl (fun ls hl => ?_)
  refine lv_iconst (v := (nI 0)) hxe hcd dX7_tanksAheadOf_2 (by decide) ?_
  refine lv_istore_n (lv' := [(3, .int (nI 0)), (2, .int (nI 0)), (0, .ref (A (b, 9))), (1, .int (nI q))]) hxe hcd dX7_tanksAheadOf_3 rfl hl (by decide) rfl (fun ls hl => ?_)
  have loop4 : ∀ (n_ : Nat) (i : Nat), nt - i < n_ → (i ≤ nt) → ∀ (H : Heap) (locs : List Loc) (ls : Array Slot), wX Z (ids g) A (cE Z A g μ) (fA (ids g) A (cE Z A g μ) s.heap.size) s H locs → lv_has ls 4 [(0, .ref (A (b, 9))), (1, .int (nI q)), (2, .int (nI (ahN (μ b 10) (μ b 12) q i))), (3, .int (nI i))] → W p l e (rmD 3 0 0) s m ([.ref (A (b, 9)), .int (nI q)] : List Value).toArray below meth c H locs 0 0 (MQ below (va_Qi (fun r (_ : Unit) => (fun r => r = nI (ahN (μ b 10) (μ b 12) q nt)) r) (fun _ t => qB Z (ids g) A (cE Z A g μ) (fA (ids g) A (cE Z A g μ) s.heap.size) t) (fA (ids g) A (cE Z A g μ) s.heap.size)) ([.ref (A (b, 9)), .int (nI q)] : List Value).toArray s 0 0 (fA (ids g) A (cE Z A g μ) s.heap.size)) (F0 m 4 ls []) := by
    intro n_
    induction n_ with
    | zero => intro i hm; exact absurd hm (Nat.not_lt_zero _)
    | succ n_ ih4 =>
      intro i hm hi H locs ls hW hl
      refine lv_iload_n hxe hcd dX7_tanksAheadOf_4 rfl (lv_at hl 3 rfl) ?_
      refine lv_aload_n hxe hcd dX7_tanksAheadOf_5 rfl (lv_at hl 0 rfl) ?_
      refine gf_X7_24 S hW hb dX7_tanksAheadOf_6 ?_
      refine r_as (y := (nI nt)) (hc) ?_
      refine n_ge S (a := i) (b := nt) (by omega) (by omega) dX7_tanksAheadOf_9 (tgt := 30) (by decide) (fun c9 => ?_) (fun c9 => ?_)
      · refine lv_iload_n hxe hcd dX7_tanksAheadOf_30 rfl (lv_at hl 2 rfl) ?_
        refine r_iret0 S hr hlk hW ?_ dX7_tanksAheadOf_31
        rw [show i = nt by omega]
      · refine lv_aload_n hxe hcd dX7_tanksAheadOf_12 rfl (lv_at hl 0 rfl) ?_
        refine lv_iload_n hxe hcd dX7_tanksAheadOf_13 rfl (lv_at hl 3 rfl) ?_
        refine lv_iload_n hxe hcd dX7_tanksAheadOf_14 rfl (lv_at hl 1 rfl) ?_
        refine r_calli0 (r_runV hZ S hW (As := [.int (nI i), .int (nI q)]) (rest := []) (t_X7_isAhead l hZ A g μ H.size hb (q := i) (p2 := q) (by omega) (by omega)) k_X7_89 (r_recv hW (x := (b, 9)) (in_t hb (by decide) (by decide)) rfl rfl) (hl.1) rfl rfl (Nat.le_of_ble_eq_true rfl) ⟨Nat.le_of_ble_eq_true rfl, Nat.le_of_ble_eq_true rfl⟩ ⟨Nat.le_of_ble_eq_true rfl, Nat.le_of_ble_eq_true rfl⟩ dX7_tanksAheadOf_15) hW (fun r15 H locs hp15 hW => ?_)
        rcases hp15 with ⟨hp150, hp15⟩ | ⟨hp150, hp15⟩
        · subst hp150
          refine lv_if_eq (tgt := 24) hxe hcd dX7_tanksAheadOf_18 (by decide) (fun h => absurd h (by decide)) (fun _ => ?_)
          refine lv_iinc (v := (nI ((ahN (μ b 10) (μ b 12) q i) + 1))) (lv' := [(2, .int (nI ((ahN (μ b 10) (μ b 12) q i) + 1))), (0, .ref (A (b, 9))), (1, .int (nI q)), (3, .int (nI i))]) hxe hcd dX7_tanksAheadOf_21 hl (k := 2) rfl (nI_add (ahN (μ b 10) (μ b 12) q i) 1) (by decide) rfl (fun ls hl => ?_)
          refine lv_iinc (v := (nI (i + 1))) (lv' := [(3, .int (nI (i + 1))), (2, .int (nI ((ahN (μ b 10) (μ b 12) q i) + 1))), (0, .ref (A (b, 9))), (1, .int (nI q))]) hxe hcd dX7_tanksAheadOf_24 hl (k := 3) rfl (nI_add i 1) (by decide) rfl (fun ls hl => ?_)
          refine lv_goto (tgt := 4) hxe hcd dX7_tanksAheadOf_27 (by decide) ?_
          have hl : lv_has ls 4 [(3, .int (nI (i + 1))), (2, .int (nI (ahN (μ b 10) (μ b 12) q (i + 1)))), (0, .ref (A (b, 9))), (1, .int (nI q))] := by
            rw [ahN_y hp15]
            exact lv_sub hl [0, 1, 2, 3] rfl
          exact ih4 (i + 1) (by omega) (by omega) _ _ _ hW (lv_sub hl [2, 3, 1, 0] rfl)
        · subst hp150
          refine lv_if_eq (tgt := 24) hxe hcd dX7_tanksAheadOf_18 (by decide) (fun _ => ?_) (fun h => absurd (by decide) h)
          refine lv_iinc (v := (nI (i + 1))) (lv' := [(3, .int (nI (i + 1))), (0, .ref (A (b, 9))), (1, .int (nI q)), (2, .int (nI (ahN (μ b 10) (μ b 12) q i)))]) hxe hcd dX7_tanksAheadOf_24 hl (k := 3) rfl (nI_add i 1) (by decide) rfl (fun ls hl => ?_)
          refine lv_goto (tgt := 4) hxe hcd dX7_tanksAheadOf_27 (by decide) ?_
          have hl : lv_has ls 4 [(3, .int (nI (i + 1))), (2, .int (nI (ahN (μ b 10) (μ b 12) q (i + 1)))), (0, .ref (A (b, 9))), (1, .int (nI q))] := by
            rw [ahN_n hp15]
            exact lv_sub hl [0, 3, 1, 2] rfl
          exact ih4 (i + 1) (by omega) (by omega) _ _ _ hW (lv_sub hl [2, 3, 1, 0] rfl)
  exact loop4 (nt + 1) 0 (Nat.lt_succ_self _) (Nat.zero_le _) _ _ _ hW (lv_sub hl [2, 3, 1, 0] rfl)
set_option maxHeartbeats 4000000 in
set_option maxRecDepth 100000 in
theorem t_X7_tankBehind (l : Launch) {Z : ZT} (hZ : zOK Z) (A : Nat × Nat → Nat) (g : Nat → Bool) (μ : CM) (sz : Nat) {b : Nat} (hb : tB g b) {nt : Nat} (hc : μ b 9 4 = nI nt) (h4 : nt ≤ 4) (x : Int32) : XCi l yX7_tankBehind cX7_tankBehind 3 (some .int) 4 [.ref (A (b, 9)), .int x] Z (ids g) A (cE Z A g μ) sz (fun r => (∃ t, t < nt ∧ r = nI t ∧ nI (ahN (μ b 10) (μ b 12) t nt) = x ∧ ∀ t2, t2 < t → ¬ nI (ahN (μ b 10) (μ b 12) t2 nt) = x) ∨ (r = -1 ∧ ∀ t, t < nt → ¬ nI (ahN (μ b 10) (μ b 12) t nt) = x)) := by
  refine r_met (E := (cE Z A g μ)) (by decide +kernel) (Nat.le_of_ble_eq_true rfl) ?_
  intro p e s m below meth c ls S hr hlk hnm hsz hW hl
  have hxe := S.1
  have hcd := S.2.1
  subst hsz
  have hl : lv_has ls 3 [(0, .ref (A (b, 9))), (1, .int x)] := hl
  refine lv_iconst (v := (nI 0)) hxe hcd dX7_tankBehind_0 (by decide) ?_
  refine lv_istore_n (lv' := [(2, .int (nI 0)), (0, .ref (A (b, 9))), (1, .int x)]) hxe hcd dX7_tankBehind_1 rfl hl (by decide) rfl (fun ls hl => ?_)
  have loop2 : ∀ (n_ : Nat) (i : Nat), nt - i < n_ → (i ≤ nt) → (∀ t, t < i → ¬ nI (ahN (μ b 10) (μ b 12) t nt) = x) → ∀ (H : Heap) (locs : List Loc) (ls : Array Slot), wX Z (ids g) A (cE Z A g μ) (fA (ids g) A (cE Z A g μ) s.heap.size) s H locs → lv_has ls 3 [(0, .ref (A (b, 9))), (1, .int x), (2, .int (nI i))] → W p l e (rmD 4 0 0) s m ([.ref (A (b, 9)), .int x] : List Value).toArray below meth c H locs 0 0 (MQ below (va_Qi (fun r (_ : Unit) => (fun r => (∃ t, t < nt ∧ r = nI t ∧ nI (ahN (μ b 10) (μ b 12) t nt) = x ∧ ∀ t2, t2 < t → ¬ nI (ahN (μ b 10) (μ b 12) t2 nt) = x) ∨ (r = -1 ∧ ∀ t, t < nt → ¬ nI (ahN (μ b 10) (μ b 12) t nt) = x)) r) (fun _ t => qB Z (ids g) A (cE Z A g μ) (fA (ids g) A (cE Z A g μ) s.heap.size) t) (fA (ids g) A (cE Z A g μ) s.heap.size)) ([.ref (A (b, 9)), .int x] : List Value).toArray s 0 0 (fA (ids g) A (cE Z A g μ) s.heap.size)) (F0 m 2 ls []) := by
    intro n_
    induction n_ with
    | zero => intro i hm; exact absurd hm (Nat.not_lt_zero _)
    | succ n_ ih2 =>
      intro i hm hi hno H locs ls hW hl
      refine lv_iload_n hxe hcd dX7_tankBehind_2 rfl (lv_at hl 2 rfl) ?_
      refine lv_aload_n hxe hcd dX7_tankBehind_3 rfl (lv_at hl 0 rfl) ?_
      refine gf_X7_24 S hW hb dX7_tankBehind_4 ?_
      refine r_as (y := (nI nt)) (hc) ?_
      refine n_ge S (a := i) (b := nt) (by omega) (by omega) dX7_tankBehind_7 (tgt := 27) (by decide) (fun c7 => ?_) (fun c7 => ?_)
      · refine lv_iconst (v := (-1)) hxe hcd dX7_tankBehind_27 (by decide) ?_
        refine r_iret0 S hr hlk hW ?_ dX7_tankBehind_28
        exact Or.inr ⟨rfl, fun t h => hno t (by omega)⟩
      · refine lv_aload_n hxe hcd dX7_tankBehind_10 rfl (lv_at hl 0 rfl) ?_
        refine lv_iload_n hxe hcd dX7_tankBehind_11 rfl (lv_at hl 2 rfl) ?_
        refine r_calli0 (r_runV hZ S hW (As := [.int (nI i)]) (rest := []) (t_X7_tanksAheadOf l hZ A g μ H.size hb hc h4 (q := i) (by omega)) k_X7_86 (r_recv hW (x := (b, 9)) (in_t hb (by decide) (by decide)) rfl rfl) (hl.1) rfl rfl (Nat.le_of_ble_eq_true rfl) ⟨Nat.le_of_ble_eq_true rfl, Nat.le_of_ble_eq_true rfl⟩ ⟨Nat.le_of_ble_eq_true rfl, Nat.le_of_ble_eq_true rfl⟩ dX7_tankBehind_12) hW (fun r12 H locs hp12 hW => ?_)
        have hp12 := hp12.symm
        subst hp12
        refine lv_iload_n hxe hcd dX7_tankBehind_15 rfl (lv_at hl 1 rfl) ?_
        refine lv_icmp_ne (tgt := 21) hxe hcd dX7_tankBehind_16 (by decide) (fun c16 => ?_) (fun c16 => ?_)
        · refine lv_iinc (v := (nI (i + 1))) (lv' := [(2, .int (nI (i + 1))), (0, .ref (A (b, 9))), (1, .int x)]) hxe hcd dX7_tankBehind_21 hl (k := 2) rfl (nI_add i 1) (by decide) rfl (fun ls hl => ?_)
          refine lv_goto (tgt := 2) hxe hcd dX7_tankBehind_24 (by decide) ?_
          exact ih2 (i + 1) (by omega) (by omega) (fun t h => by rcases Nat.lt_succ_iff_lt_or_eq.mp h with h | h; exact hno t h; rw [h]; exact c16) _ _ _ hW (lv_sub hl [1, 2, 0] rfl)
        · refine lv_iload_n hxe hcd dX7_tankBehind_19 rfl (lv_at hl 2 rfl) ?_
          refine r_iret0 S hr hlk hW ?_ dX7_tankBehind_20
          exact Or.inl ⟨i, by omega, rfl, c16, hno⟩
  exact loop2 (nt + 1) 0 (Nat.lt_succ_self _) (Nat.zero_le _) (fun t h => absurd h (Nat.not_lt_zero _)) _ _ _ hW (lv_sub hl [1, 2, 0] rfl)
set_option maxHeartbeats 4000000 in
set_option maxRecDepth 100000 in
theorem t_X7_sumOfLevels (l : Launch) {Z : ZT} (hZ : zOK Z) (A : Nat × Nat → Nat) (g : Nat → Bool) (μ : CM) (sz : Nat) {b : Nat} (hb : tB g b) {nt : Nat} (hc : μ b 9 4 = nI nt) (h4 : nt ≤ 4) : XCi l yX7_sumOfLevels cX7_sumOfLevels 3 (some .int) 2 [.ref (A (b, 9))] Z (ids g) A (cE Z A g μ) sz (fun r => r = isum (μ b 12) nt) := by
  refine r_met (E := (cE Z A g μ)) (by decide +kernel) (Nat.le_of_ble_eq_true rfl) ?_
  intro p e s m below meth c ls S hr hlk hnm hsz hW hl
  have hxe := S.1
  have hcd := S.2.1
  subst hsz
  have hl : lv_has ls 3 [(0, .ref (A (b, 9)))] := hl
  refine lv_iconst (v := (nI 0)) hxe hcd dX7_sumOfLevels_0 (by decide) ?_
  refine lv_istore_n (lv' := [(1, .int (nI 0)), (0, .ref (A (b, 9)))]) hxe hcd dX7_sumOfLevels_1 rfl hl (by decide) rfl (fun ls hl => ?_)
  refine lv_iconst (v := (nI 0)) hxe hcd dX7_sumOfLevels_2 (by decide) ?_
  refine lv_istore_n (lv' := [(2, .int (nI 0)), (1, .int (nI 0)), (0, .ref (A (b, 9)))]) hxe hcd dX7_sumOfLevels_3 rfl hl (by decide) rfl (fun ls hl => ?_)
  have loop4 : ∀ (n_ : Nat) (i : Nat), nt - i < n_ → (i ≤ nt) → ∀ (H : Heap) (locs : List Loc) (ls : Array Slot), wX Z (ids g) A (cE Z A g μ) (fA (ids g) A (cE Z A g μ) s.heap.size) s H locs → lv_has ls 3 [(0, .ref (A (b, 9))), (1, .int (isum (μ b 12) i)), (2, .int (nI i))] → W p l e (rmD 2 0 0) s m ([.ref (A (b, 9))] : List Value).toArray below meth c H locs 0 0 (MQ below (va_Qi (fun r (_ : Unit) => (fun r => r = isum (μ b 12) nt) r) (fun _ t => qB Z (ids g) A (cE Z A g μ) (fA (ids g) A (cE Z A g μ) s.heap.size) t) (fA (ids g) A (cE Z A g μ) s.heap.size)) ([.ref (A (b, 9))] : List Value).toArray s 0 0 (fA (ids g) A (cE Z A g μ) s.heap.size)) (F0 m 4 ls []) := by
    intro n_
    induction n_ with
    | zero => intro i hm; exact absurd hm (Nat.not_lt_zero _)
    | succ n_ ih4 =>
      intro i hm hi H locs ls hW hl
      refine lv_iload_n hxe hcd dX7_sumOfLevels_4 rfl (lv_at hl 2 rfl) ?_
      refine lv_aload_n hxe hcd dX7_sumOfLevels_5 rfl (lv_at hl 0 rfl) ?_
      refine gf_X7_24 S hW hb dX7_sumOfLevels_6 ?_
      refine r_as (y := (nI nt)) (hc) ?_
      refine n_ge S (a := i) (b := nt) (by omega) (by omega) dX7_sumOfLevels_9 (tgt := 26) (by decide) (fun c9 => ?_) (fun c9 => ?_)
      · refine lv_iload_n hxe hcd dX7_sumOfLevels_26 rfl (lv_at hl 1 rfl) ?_
        refine r_iret0 S hr hlk hW ?_ dX7_sumOfLevels_27
        rw [show i = nt by omega]
      · refine lv_iload_n hxe hcd dX7_sumOfLevels_12 rfl (lv_at hl 1 rfl) ?_
        refine lv_aload_n hxe hcd dX7_sumOfLevels_13 rfl (lv_at hl 0 rfl) ?_
        refine lv_iload_n hxe hcd dX7_sumOfLevels_14 rfl (lv_at hl 2 rfl) ?_
        refine r_calli0 (r_runV hZ S hW (As := [.int (nI i)]) (rest := [.int (isum (μ b 12) i)]) (t_X7_levelOf l hZ A g μ H.size hb (nI i)) k_X7_57 (r_recv hW (x := (b, 9)) (in_t hb (by decide) (by decide)) rfl rfl) (hl.1) rfl rfl (Nat.le_of_ble_eq_true rfl) ⟨Nat.le_of_ble_eq_true rfl, Nat.le_of_ble_eq_true rfl⟩ ⟨Nat.le_of_ble_eq_true rfl, Nat.le_of_ble_eq_true rfl⟩ dX7_sumOfLevels_15) hW (fun r15 H locs hp15 hW => ?_)
        have hp15 := hp15.symm
        subst hp15
        refine r_as (y := (μ b 12 i)) (rd_in (n := 4) (k := i) _ (by omega) (by decide)) ?_
        refine lv_iadd hxe hcd dX7_sumOfLevels_18 ?_
        refine lv_istore_n (lv' := [(1, .int ((isum (μ b 12) i) + (μ b 12 i))), (0, .ref (A (b, 9))), (2, .int (nI i))]) hxe hcd dX7_sumOfLevels_19 rfl hl (by decide) rfl (fun ls hl => ?_)
        refine lv_iinc (v := (nI (i + 1))) (lv' := [(2, .int (nI (i + 1))), (1, .int ((isum (μ b 12) i) + (μ b 12 i))), (0, .ref (A (b, 9)))]) hxe hcd dX7_sumOfLevels_20 hl (k := 2) rfl (nI_add i 1) (by decide) rfl (fun ls hl => ?_)
        refine lv_goto (tgt := 4) hxe hcd dX7_sumOfLevels_23 (by decide) ?_
        have hl : lv_has ls 3 [(2, .int (nI (i + 1))), (1, .int (isum (μ b 12) (i + 1))), (0, .ref (A (b, 9)))] := by
          exact lv_sub hl [0, 1, 2] rfl
        exact ih4 (i + 1) (by omega) (by omega) _ _ _ hW (lv_sub hl [2, 1, 0] rfl)
  exact loop4 (nt + 1) 0 (Nat.lt_succ_self _) (Nat.zero_le _) _ _ _ hW (lv_sub hl [2, 1, 0] rfl)
set_option maxHeartbeats 4000000 in
set_option maxRecDepth 100000 in
theorem t_X7_sumOfCapacities (l : Launch) {Z : ZT} (hZ : zOK Z) (A : Nat × Nat → Nat) (g : Nat → Bool) (μ : CM) (sz : Nat) {b : Nat} (hb : tB g b) {nt : Nat} (hc : μ b 9 4 = nI nt) (h4 : nt ≤ 4) : XCi l yX7_sumOfCapacities cX7_sumOfCapacities 3 (some .int) 2 [.ref (A (b, 9))] Z (ids g) A (cE Z A g μ) sz (fun r => r = isum (μ b 10) nt) := by
  refine r_met (E := (cE Z A g μ)) (by decide +kernel) (Nat.le_of_ble_eq_true rfl) ?_
  intro p e s m below meth c ls S hr hlk hnm hsz hW hl
  have hxe := S.1
  have hcd := S.2.1
  subst hsz
  have hl : lv_has ls 3 [(0, .ref (A (b, 9)))] := hl
  refine lv_iconst (v := (nI 0)) hxe hcd dX7_sumOfCapacities_0 (by decide) ?_
  refine lv_istore_n (lv' := [(1, .int (nI 0)), (0, .ref (A (b, 9)))]) hxe hcd dX7_sumOfCapacities_1 rfl hl (by decide) rfl (fun ls hl => ?_)
  refine lv_iconst (v := (nI 0)) hxe hcd dX7_sumOfCapacities_2 (by decide) ?_
  refine lv_istore_n (lv' := [(2, .int (nI 0)), (1, .int (nI 0)), (0, .ref (A (b, 9)))]) hxe hcd dX7_sumOfCapacities_3 rfl hl (by decide) rfl (fun ls hl => ?_)
  have loop4 : ∀ (n_ : Nat) (i : Nat), nt - i < n_ → (i ≤ nt) → ∀ (H : Heap) (locs : List Loc) (ls : Array Slot), wX Z (ids g) A (cE Z A g μ) (fA (ids g) A (cE Z A g μ) s.heap.size) s H locs → lv_has ls 3 [(0, .ref (A (b, 9))), (1, .int (isum (μ b 10) i)), (2, .int (nI i))] → W p l e (rmD 2 0 0) s m ([.ref (A (b, 9))] : List Value).toArray below meth c H locs 0 0 (MQ below (va_Qi (fun r (_ : Unit) => (fun r => r = isum (μ b 10) nt) r) (fun _ t => qB Z (ids g) A (cE Z A g μ) (fA (ids g) A (cE Z A g μ) s.heap.size) t) (fA (ids g) A (cE Z A g μ) s.heap.size)) ([.ref (A (b, 9))] : List Value).toArray s 0 0 (fA (ids g) A (cE Z A g μ) s.heap.size)) (F0 m 4 ls []) := by
    intro n_
    induction n_ with
    | zero => intro i hm; exact absurd hm (Nat.not_lt_zero _)
    | succ n_ ih4 =>
      intro i hm hi H locs ls hW hl
      refine lv_iload_n hxe hcd dX7_sumOfCapacities_4 rfl (lv_at hl 2 rfl) ?_
      refine lv_aload_n hxe hcd dX7_sumOfCapacities_5 rfl (lv_at hl 0 rfl) ?_
      refine gf_X7_24 S hW hb dX7_sumOfCapacities_6 ?_
      refine r_as (y := (nI nt)) (hc) ?_
      refine n_ge S (a := i) (b := nt) (by omega) (by omega) dX7_sumOfCapacities_9 (tgt := 26) (by decide) (fun c9 => ?_) (fun c9 => ?_)
      · refine lv_iload_n hxe hcd dX7_sumOfCapacities_26 rfl (lv_at hl 1 rfl) ?_
        refine r_iret0 S hr hlk hW ?_ dX7_sumOfCapacities_27
        rw [show i = nt by omega]
      · refine lv_iload_n hxe hcd dX7_sumOfCapacities_12 rfl (lv_at hl 1 rfl) ?_
        refine lv_aload_n hxe hcd dX7_sumOfCapacities_13 rfl (lv_at hl 0 rfl) ?_
        refine lv_iload_n hxe hcd dX7_sumOfCapacities_14 rfl (lv_at hl 2 rfl) ?_
        refine r_calli0 (r_runV hZ S hW (As := [.int (nI i)]) (rest := [.int (isum (μ b 10) i)]) (t_X7_capacityOf l hZ A g μ H.size hb (nI i)) k_X7_74 (r_recv hW (x := (b, 9)) (in_t hb (by decide) (by decide)) rfl rfl) (hl.1) rfl rfl (Nat.le_of_ble_eq_true rfl) ⟨Nat.le_of_ble_eq_true rfl, Nat.le_of_ble_eq_true rfl⟩ ⟨Nat.le_of_ble_eq_true rfl, Nat.le_of_ble_eq_true rfl⟩ dX7_sumOfCapacities_15) hW (fun r15 H locs hp15 hW => ?_)
        have hp15 := hp15.symm
        subst hp15
        refine r_as (y := (μ b 10 i)) (rd_in (n := 4) (k := i) _ (by omega) (by decide)) ?_
        refine lv_iadd hxe hcd dX7_sumOfCapacities_18 ?_
        refine lv_istore_n (lv' := [(1, .int ((isum (μ b 10) i) + (μ b 10 i))), (0, .ref (A (b, 9))), (2, .int (nI i))]) hxe hcd dX7_sumOfCapacities_19 rfl hl (by decide) rfl (fun ls hl => ?_)
        refine lv_iinc (v := (nI (i + 1))) (lv' := [(2, .int (nI (i + 1))), (1, .int ((isum (μ b 10) i) + (μ b 10 i))), (0, .ref (A (b, 9)))]) hxe hcd dX7_sumOfCapacities_20 hl (k := 2) rfl (nI_add i 1) (by decide) rfl (fun ls hl => ?_)
        refine lv_goto (tgt := 4) hxe hcd dX7_sumOfCapacities_23 (by decide) ?_
        have hl : lv_has ls 3 [(2, .int (nI (i + 1))), (1, .int (isum (μ b 10) (i + 1))), (0, .ref (A (b, 9)))] := by
          exact lv_sub hl [0, 1, 2] rfl
        exact ih4 (i + 1) (by omega) (by omega) _ _ _ hW (lv_sub hl [2, 1, 0] rfl)
  exact loop4 (nt + 1) 0 (Nat.lt_succ_self _) (Nat.zero_le _) _ _ _ hW (lv_sub hl [2, 1, 0] rfl)
