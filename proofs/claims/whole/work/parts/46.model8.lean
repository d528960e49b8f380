set_option maxHeartbeats 4000000 in
set_option maxRecDepth 100000 in
theorem t_X10_writes (l : Launch) {Z : ZT} (hZ : zOK Z) (B : Nat → Nat) (ν : MM) (sz : Nat) {lN : Nat} (hlN : ν 0 20 = nI lN) (h80 : lN < 80) (x : Int32) : XMv l yX10_writes cX10_writes 2 0 [.ref (B 0), .int x] Z mds B (mE Z B) ν sz (fun u => u = up1 (up1 ν 9 (upd (ν 9) lN x)) 0 (upd (ν 0) 20 (nI (lN + 1)))) := by
  refine r_met (E := (mE Z B ν)) (by decide +kernel) (Nat.le_of_ble_eq_true rfl) ?_
  intro p e s m below meth c ls S hr hlk hnm hsz hW hl
  have hxe := S.1
  have hcd := S.2.1
  subst hsz
  have hl : lv_has ls 2 [(0, .ref (B 0)), (1, .int x)] := hl
  refine lv_aload_n hxe hcd dX10_writes_0 rfl (lv_at hl 0 rfl) ?_
  refine gf_X10_41 S hW dX10_writes_1 ?_
  refine lv_aload_n hxe hcd dX10_writes_4 rfl (lv_at hl 0 rfl) ?_
  refine gf_X10_219 S hW dX10_writes_5 ?_
  refine r_as (y := (nI lN)) (hlN) ?_
  refine lv_iload_n hxe hcd dX10_writes_8 rfl (lv_at hl 1 rfl) ?_
  refine gm_ast S hW (i := 9) (k := lN) (n := 80) (by decide) (by decide) rfl (by omega) dX10_writes_9 (fun H locs hW => ?_)
  refine lv_aload_n hxe hcd dX10_writes_10 rfl (lv_at hl 0 rfl) ?_
  refine lv_dup hxe hcd dX10_writes_11 rfl ?_
  refine gf_X10_219 S hW dX10_writes_12 ?_
  refine r_as (y := (nI lN)) (by rw [up1_o (j := 0) (i := 9) (by decide), hlN]) ?_
  refine lv_iconst (v := (nI 1)) hxe hcd dX10_writes_15 (by decide) ?_
  refine n_iadd S (a := lN) (b := 1) dX10_writes_16 ?_
  refine gp_X10_219 S hW dX10_writes_17 (fun H locs hW => ?_)
  refine r_vret S hr hlk (F := (mE Z B)) (u := (up1 (up1 ν 9 (upd (ν 9) lN x)) 0 (upd ((up1 ν 9 (upd (ν 9) lN x)) 0) 20 (nI (lN + 1))))) hW ?_ dX10_writes_20
  rw [up1_o (j := 0) (i := 9) (by decide)]
set_option maxHeartbeats 4000000 in
set_option maxRecDepth 100000 in
theorem t_X10_writesNumber (l : Launch) {Z : ZT} (hZ : zOK Z) (B : Nat → Nat) (ν : MM) (sz : Nat) {n lN : Nat} (hn6 : n < 1000000) (hlN : ν 0 20 = nI lN) (h80 : lN + 6 ≤ 80) : XMv l yX10_writesNumber cX10_writesNumber 3 1 [.ref (B 0), .int (nI n)] Z mds B (mE Z B) ν sz (fun u => u = LM ν (wrn (ν 9, lN) n)) := by
  refine r_met (E := (mE Z B ν)) (by decide +kernel) (Nat.le_of_ble_eq_true rfl) ?_
  intro p e s m below meth c ls S hr hlk hnm hsz hW hl
  have hxe := S.1
  have hcd := S.2.1
  subst hsz
  have hl : lv_has ls 3 [(0, .ref (B 0)), (1, .int (nI n))] := hl
  refine lv_iconst (v := (nI 1)) hxe hcd dX10_writesNumber_0 (by decide) ?_
  refine lv_istore_n (lv' := [(2, .int (nI 1)), (0, .ref (B 0)), (1, .int (nI n))]) hxe hcd dX10_writesNumber_1 rfl hl (by decide) rfl (fun ls hl => ?_)
  have hl : lv_has ls 3 [(2, .int (nI (p10 0))), (0, .ref (B 0)), (1, .int (nI n))] := hl
  have loop2 : ∀ (n_ : Nat) (k : Nat), 6 - k < n_ → (k ≤ 5) → (k = 0 ∨ p10 k ≤ n) → ∀ (H : Heap) (locs : List Loc) (ls : Array Slot), wX Z mds B (mE Z B ν) (fA mds B (mE Z B ν) s.heap.size) s H locs → lv_has ls 3 [(0, .ref (B 0)), (1, .int (nI n)), (2, .int (nI (p10 k)))] → W p l e (rmD 1 0 0) s m ([.ref (B 0), .int (nI n)] : List Value).toArray below meth c H locs 0 0 (MQ below (va_Qv (fun u => u = LM ν (wrn (ν 9, lN) n)) (fun u t => qB Z mds B ((mE Z B) u) (fA mds B (mE Z B ν) s.heap.size) t) (fA mds B (mE Z B ν) s.heap.size)) ([.ref (B 0), .int (nI n)] : List Value).toArray s 0 0 (fA mds B (mE Z B ν) s.heap.size)) (F0 m 2 ls []) := by
    intro n_
    induction n_ with
    | zero => intro k hm; exact absurd hm (Nat.not_lt_zero _)
    | succ n_ ih2 =>
      intro k hm hk hk2 H locs ls hW hl
      have hk5 := p10_5 hk
      have hkp := p10_pos k
      have hdv := Nat.div_le_self n (p10 k)
      refine lv_iload_n hxe hcd dX10_writesNumber_2 rfl (lv_at hl 1 rfl) ?_
      refine lv_iload_n hxe hcd dX10_writesNumber_3 rfl (lv_at hl 2 rfl) ?_
      refine n_idiv S (a := n) (b := (p10 k)) (by omega) (by omega) (by omega) dX10_writesNumber_4 ?_
      refine lv_bipush (v := (nI 10)) hxe hcd dX10_writesNumber_5 (by decide) ?_
      refine n_lt S (a := (n / (p10 k))) (b := 10) (by omega) (by omega) dX10_writesNumber_7 (tgt := 18) (by decide) (fun c7 => ?_) (fun c7 => ?_)
      · have hnd : nd n = k + 1 := nd_k hk2 (dv_lt.mp c7) hk
        have hnd6 := nd_6 n
        have hl : lv_has ls 3 [(0, .ref (B 0)), (1, .int (nI n)), (2, .int (nI (tnP k 0)))] := by
          rw [tnP, if_pos (Nat.zero_le _), Nat.sub_zero]; exact hl
        have loop18 : ∀ (n_ : Nat) (i : Nat), k + 1 - i < n_ → (i ≤ k + 1) → ∀ (H : Heap) (locs : List Loc) (ls : Array Slot), wX Z mds B (mE Z B (LM ν (dgP (ν 9) lN n k i, lN + i))) (fA mds B (mE Z B ν) s.heap.size) s H locs → lv_has ls 3 [(0, .ref (B 0)), (1, .int (nI n)), (2, .int (nI (tnP k i)))] → W p l e (rmD 1 0 0) s m ([.ref (B 0), .int (nI n)] : List Value).toArray below meth c H locs 0 0 (MQ below (va_Qv (fun u => u = LM ν (wrn (ν 9, lN) n)) (fun u t => qB Z mds B ((mE Z B) u) (fA mds B (mE Z B ν) s.heap.size) t) (fA mds B (mE Z B ν) s.heap.size)) ([.ref (B 0), .int (nI n)] : List Value).toArray s 0 0 (fA mds B (mE Z B ν) s.heap.size)) (F0 m 18 ls []) := by
          intro n_
          induction n_ with
          | zero => intro i hm; exact absurd hm (Nat.not_lt_zero _)
          | succ n_ ih18 =>
            intro i hm hi H locs ls hW hl
            have ht := tnP_le (i := i) hk
            have hdv2 := Nat.div_le_self n (tnP k i)
            refine lv_iload_n hxe hcd dX10_writesNumber_18 rfl (lv_at hl 2 rfl) ?_
            refine n_ifle S (a := (tnP k i)) (by omega) dX10_writesNumber_19 (tgt := 43) (by decide) (fun c19 => ?_) (fun c19 => ?_)
            · refine r_vret S hr hlk (F := (mE Z B)) (u := (LM ν (dgP (ν 9) lN n k i, lN + i))) hW ?_ dX10_writesNumber_43
              have e : i = k + 1 := by have := tnP_z.mp c19; omega
              rw [wrn, hnd, e, Nat.add_sub_cancel]
            · have hik : i ≤ k := Nat.not_lt.mp (fun z => c19 (tnP_z.mpr z))
              have htp : 0 < tnP k i := by omega
              refine lv_aload_n hxe hcd dX10_writesNumber_22 rfl (lv_at hl 0 rfl) ?_
              refine lv_bipush (v := (nI 48)) hxe hcd dX10_writesNumber_23 (by decide) ?_
              refine lv_iload_n hxe hcd dX10_writesNumber_25 rfl (lv_at hl 1 rfl) ?_
              refine lv_iload_n hxe hcd dX10_writesNumber_26 rfl (lv_at hl 2 rfl) ?_
              refine n_idiv S (a := n) (b := (tnP k i)) (by omega) (by omega) (by omega) dX10_writesNumber_27 ?_
              refine lv_bipush (v := (nI 10)) hxe hcd dX10_writesNumber_28 (by decide) ?_
              refine n_irem S (a := (n / (tnP k i))) (b := 10) (by omega) (by omega) (by omega) dX10_writesNumber_30 ?_
              refine n_iadd S (a := 48) (b := ((n / (tnP k i)) % 10)) dX10_writesNumber_31 ?_
              refine r_callv (F := (mE Z B)) (r_runV hZ S hW (As := [.int (nI (48 + ((n / (tnP k i)) % 10)))]) (rest := []) (t_X10_writes l hZ B (LM ν (dgP (ν 9) lN n k i, lN + i)) H.size (lN := (dgP (ν 9) lN n k i, lN + i).2) (LM_n _ _) (by first | omega | (simp only [wr1, wrn]; omega)) (nI (48 + ((n / (tnP k i)) % 10)))) k_X10_222 (r_recv hW (x := 0) (List.mem_range.mpr (by decide)) rfl rfl) (hl.1) rfl rfl (Nat.le_of_ble_eq_true rfl) ⟨Nat.le_of_ble_eq_true rfl, Nat.le_of_ble_eq_true rfl⟩ ⟨Nat.le_of_ble_eq_true rfl, Nat.le_of_ble_eq_true rfl⟩ dX10_writesNumber_32) hW (fun u32 H locs hp32 hW => ?_)
              have hmhp32 : u32 = LM ν (wr1 (dgP (ν 9) lN n k i, lN + i) (nI (48 + ((n / (tnP k i)) % 10)))) := by rw [hp32]; exact LM_wr1 _ _ _
              subst hmhp32
              refine lv_iload_n hxe hcd dX10_writesNumber_35 rfl (lv_at hl 2 rfl) ?_
              refine lv_bipush (v := (nI 10)) hxe hcd dX10_writesNumber_36 (by decide) ?_
              refine n_idiv S (a := (tnP k i)) (b := 10) (by omega) (by omega) (by omega) dX10_writesNumber_38 ?_
              refine lv_istore_n (lv' := [(2, .int (nI ((tnP k i) / 10))), (0, .ref (B 0)), (1, .int (nI n))]) hxe hcd dX10_writesNumber_39 rfl hl (by decide) rfl (fun ls hl => ?_)
              refine lv_goto (tgt := 18) hxe hcd dX10_writesNumber_40 (by decide) ?_
              have hl : lv_has ls 3 [(2, .int (nI (tnP k (i + 1)))), (0, .ref (B 0)), (1, .int (nI n))] := by
                rw [tnP_s hik]
                exact lv_sub hl [0, 1, 2] rfl
              exact ih18 (i + 1) (by omega) (by omega) _ _ _ (by rw [show wr1 (dgP (ν 9) lN n k i, lN + i) (nI (48 + n / tnP k i % 10)) = (dgP (ν 9) lN n k (i + 1), lN + (i + 1)) from Prod.ext (dgP_s _ hik) rfl] at hW; exact hW) (lv_sub hl [1, 2, 0] rfl)
        exact loop18 ((k + 1) + 1) 0 (Nat.lt_succ_self _) (Nat.zero_le _) _ _ _ (by rw [dgP_0, Nat.add_zero, LM_0, ← hlN, upd_id0, up1_id]; exact hW) (lv_sub hl [0, 1, 2] rfl)
      · refine lv_iload_n hxe hcd dX10_writesNumber_10 rfl (lv_at hl 2 rfl) ?_
        refine lv_bipush (v := (nI 10)) hxe hcd dX10_writesNumber_11 (by decide) ?_
        refine n_imul S (a := (p10 k)) (b := 10) dX10_writesNumber_13 ?_
        refine lv_istore_n (lv' := [(2, .int (nI ((p10 k) * 10))), (0, .ref (B 0)), (1, .int (nI n))]) hxe hcd dX10_writesNumber_14 rfl hl (by decide) rfl (fun ls hl => ?_)
        refine lv_goto (tgt := 2) hxe hcd dX10_writesNumber_15 (by decide) ?_
        have hl : lv_has ls 3 [(2, .int (nI (p10 (k + 1)))), (0, .ref (B 0)), (1, .int (nI n))] := by
          rw [p10]
          exact lv_sub hl [0, 1, 2] rfl
        exact ih2 (k + 1) (by omega) (p10_b (Nat.not_lt.mp (fun z => c7 (dv_lt.mpr z))) hn6) (Or.inr (Nat.not_lt.mp (fun z => c7 (dv_lt.mpr z)))) _ _ _ hW (lv_sub hl [1, 2, 0] rfl)
  exact loop2 (6 + 1) 0 (Nat.lt_succ_self _) (Nat.zero_le _) (Or.inl rfl) _ _ _ hW (lv_sub hl [1, 2, 0] rfl)
set_option maxHeartbeats 4000000 in
set_option maxRecDepth 100000 in
theorem t_X10_describeChain (l : Launch) {Z : ZT} (hZ : zOK Z) (B : Nat → Nat) (ν : MM) (sz : Nat) {nf : Nat} (hnf : ν 1 0 = nI nf) (hnf8 : nf ≤ 8) (ps : Nat → Nat) (hps : ∀ f, f < nf → ν 1 (13 + f) = nI (ps f) ∧ ps f ≤ 999 ∧ KP (ν 1 (5 + f)) (nI (ps f))) : XMi l yX10_describeChain cX10_describeChain 2 (some .int) 2 [.ref (B 0)] Z mds B (mE Z B) ν sz (fun r u => r = nI (dcC (kdV (ν 1)) ps (ν 9, 0) nf).2 ∧ u = LM (up1 ν 0 (upd (ν 0) 0 (nI 0))) (dcC (kdV (ν 1)) ps (ν 9, 0) nf)) := by
  refine r_met (E := (mE Z B ν)) (by decide +kernel) (Nat.le_of_ble_eq_true rfl) ?_
  intro p e s m below meth c ls S hr hlk hnm hsz hW hl
  have hxe := S.1
  have hcd := S.2.1
  subst hsz
  have hl : lv_has ls 2 [(0, .ref (B 0))] := hl
  refine lv_aload_n hxe hcd dX10_describeChain_0 rfl (lv_at hl 0 rfl) ?_
  refine lv_iconst (v := (nI 0)) hxe hcd dX10_describeChain_1 (by decide) ?_
  refine gp_X10_53 S hW dX10_describeChain_2 (fun H locs hW => ?_)
  refine lv_aload_n hxe hcd dX10_describeChain_5 rfl (lv_at hl 0 rfl) ?_
  refine lv_iconst (v := (nI 0)) hxe hcd dX10_describeChain_6 (by decide) ?_
  refine gp_X10_219 S hW dX10_describeChain_7 (fun H locs hW => ?_)
  refine lv_iconst (v := (nI 0)) hxe hcd dX10_describeChain_10 (by decide) ?_
  refine lv_istore_n (lv' := [(1, .int (nI 0)), (0, .ref (B 0))]) hxe hcd dX10_describeChain_11 rfl hl (by decide) rfl (fun ls hl => ?_)
  have loop12 : ∀ (n_ : Nat) (f : Nat), nf - f < n_ → (f ≤ nf) → ∀ (H : Heap) (locs : List Loc) (ls : Array Slot), wX Z mds B (mE Z B (LM (up1 ν 0 (upd (ν 0) 0 (nI 0))) (dcC (kdV (ν 1)) ps (ν 9, 0) f))) (fA mds B (mE Z B ν) s.heap.size) s H locs → lv_has ls 2 [(0, .ref (B 0)), (1, .int (nI f))] → W p l e (rmD 2 0 0) s m ([.ref (B 0)] : List Value).toArray below meth c H locs 0 0 (MQ below (va_Qi (fun r u => r = nI (dcC (kdV (ν 1)) ps (ν 9, 0) nf).2 ∧ u = LM (up1 ν 0 (upd (ν 0) 0 (nI 0))) (dcC (kdV (ν 1)) ps (ν 9, 0) nf)) (fun u t => qB Z mds B ((mE Z B) u) (fA mds B (mE Z B ν) s.heap.size) t) (fA mds B (mE Z B ν) s.heap.size)) ([.ref (B 0)] : List Value).toArray s 0 0 (fA mds B (mE Z B ν) s.heap.size)) (F0 m 12 ls []) := by
    intro n_
    induction n_ with
    | zero => intro f hm; exact absurd hm (Nat.not_lt_zero _)
    | succ n_ ih12 =>
      intro f hm hf H locs ls hW hl
      have hle : (dcC (kdV (ν 1)) ps (ν 9, 0) f).2 ≤ 0 + 5 * f := dcC_le (fun j hj => (hps j (by omega)).2.1)
      refine lv_iload_n hxe hcd dX10_describeChain_12 rfl (lv_at hl 1 rfl) ?_
      refine lv_aload_n hxe hcd dX10_describeChain_13 rfl (lv_at hl 0 rfl) ?_
      refine gf_X10_16 S hW dX10_describeChain_14 ?_
      refine lv_iconst (v := (nI 0)) hxe hcd dX10_describeChain_17 (by decide) ?_
      refine gm_ald S hW (i := 1) (k := 0) (n := 1357) (by decide) (by decide) rfl (by omega) dX10_describeChain_18 ?_
      refine r_as (y := (nI nf)) (hnf) ?_
      refine n_ge S (a := f) (b := nf) (by omega) (by omega) dX10_describeChain_19 (tgt := 76) (by decide) (fun c19 => ?_) (fun c19 => ?_)
      · refine lv_aload_n hxe hcd dX10_describeChain_76 rfl (lv_at hl 0 rfl) ?_
        refine gf_X10_219 S hW dX10_describeChain_77 ?_
        refine r_as (y := (nI ((dcC (kdV (ν 1)) ps (ν 9, 0) f).2))) (LM_n _ _) ?_
        refine r_iret S hr hlk (F := (mE Z B)) (u := (LM (up1 ν 0 (upd (ν 0) 0 (nI 0))) (dcC (kdV (ν 1)) ps (ν 9, 0) f))) hW ?_ dX10_describeChain_80
        rw [show f = nf by omega]
        exact ⟨rfl, rfl⟩
      · refine lv_iload_n hxe hcd dX10_describeChain_22 rfl (lv_at hl 1 rfl) ?_
        refine n_ifle S (a := f) (by omega) dX10_describeChain_23 (tgt := 32) (by decide) (fun c23 => ?_) (fun c23 => ?_)
        · refine lv_aload_n hxe hcd dX10_describeChain_32 rfl (lv_at hl 0 rfl) ?_
          refine lv_aload_n hxe hcd dX10_describeChain_33 rfl (lv_at hl 0 rfl) ?_
          refine gf_X10_16 S hW dX10_describeChain_34 ?_
          refine lv_iconst (v := (nI 5)) hxe hcd dX10_describeChain_37 (by decide) ?_
          refine lv_iload_n hxe hcd dX10_describeChain_38 rfl (lv_at hl 1 rfl) ?_
          refine n_iadd S (a := 5) (b := f) dX10_describeChain_39 ?_
          refine gm_ald S hW (i := 1) (k := (5 + f)) (n := 1357) (by decide) (by decide) rfl (by omega) dX10_describeChain_40 ?_
          refine r_as (y := (ν 1 (5 + f))) (rfl) ?_
          refine r_callv (F := (mE Z B)) (r_runV hZ S hW (As := [.int (ν 1 (5 + f))]) (rest := []) (t_X10_writes l hZ B (LM (up1 ν 0 (upd (ν 0) 0 (nI 0))) (dcC (kdV (ν 1)) ps (ν 9, 0) f)) H.size (lN := (dcC (kdV (ν 1)) ps (ν 9, 0) f).2) (LM_n _ _) (by first | omega | (simp only [wr1, wrn]; omega)) (ν 1 (5 + f))) k_X10_222 (r_recv hW (x := 0) (List.mem_range.mpr (by decide)) rfl rfl) (hl.1) rfl rfl (Nat.le_of_ble_eq_true rfl) ⟨Nat.le_of_ble_eq_true rfl, Nat.le_of_ble_eq_true rfl⟩ ⟨Nat.le_of_ble_eq_true rfl, Nat.le_of_ble_eq_true rfl⟩ dX10_describeChain_41) hW (fun u41 H locs hp41 hW => ?_)
          have hmhp41 : u41 = LM (up1 ν 0 (upd (ν 0) 0 (nI 0))) (wr1 (dcC (kdV (ν 1)) ps (ν 9, 0) f) (ν 1 (5 + f))) := by rw [hp41]; exact LM_wr1 _ _ _
          subst hmhp41
          refine lv_aload_n hxe hcd dX10_describeChain_44 rfl (lv_at hl 0 rfl) ?_
          refine gf_X10_16 S hW dX10_describeChain_45 ?_
          refine lv_iconst (v := (nI 5)) hxe hcd dX10_describeChain_48 (by decide) ?_
          refine lv_iload_n hxe hcd dX10_describeChain_49 rfl (lv_at hl 1 rfl) ?_
          refine n_iadd S (a := 5) (b := f) dX10_describeChain_50 ?_
          refine gm_ald S hW (i := 1) (k := (5 + f)) (n := 1357) (by decide) (by decide) rfl (by omega) dX10_describeChain_51 ?_
          refine r_as (y := (ν 1 (5 + f))) (rfl) ?_
          refine lv_bipush (v := (nI 102)) hxe hcd dX10_describeChain_52 (by decide) ?_
          refine lv_icmp_eq (tgt := 70) hxe hcd dX10_describeChain_54 (by decide) (fun c54 => ?_) (fun c54 => ?_)
          · refine lv_iinc (v := (nI (f + 1))) (lv' := [(1, .int (nI (f + 1))), (0, .ref (B 0))]) hxe hcd dX10_describeChain_70 hl (k := 1) rfl (nI_add f 1) (by decide) rfl (fun ls hl => ?_)
            refine lv_goto (tgt := 12) hxe hcd dX10_describeChain_73 (by decide) ?_
            exact ih12 (f + 1) (by omega) (by omega) _ _ _ (by rw [dcC, if_pos (show kdV (ν 1) f = nI 102 from c54), if_pos c23]; exact hW) (lv_sub hl [1, 0] rfl)
          · have hpf := hps f (by omega)
            have hnd3 := nd_3 (n := ps f) (by omega)
            refine lv_aload_n hxe hcd dX10_describeChain_57 rfl (lv_at hl 0 rfl) ?_
            refine lv_aload_n hxe hcd dX10_describeChain_58 rfl (lv_at hl 0 rfl) ?_
            refine gf_X10_16 S hW dX10_describeChain_59 ?_
            refine lv_bipush (v := (nI 13)) hxe hcd dX10_describeChain_62 (by decide) ?_
            refine lv_iload_n hxe hcd dX10_describeChain_64 rfl (lv_at hl 1 rfl) ?_
            refine n_iadd S (a := 13) (b := f) dX10_describeChain_65 ?_
            refine gm_ald S hW (i := 1) (k := (13 + f)) (n := 1357) (by decide) (by decide) rfl (by omega) dX10_describeChain_66 ?_
            refine r_as (y := (nI (ps f))) ((hps f (by omega)).1) ?_
            refine r_callv (F := (mE Z B)) (r_runV hZ S hW (As := [.int (nI (ps f))]) (rest := []) (t_X10_writesNumber l hZ B (LM (up1 ν 0 (upd (ν 0) 0 (nI 0))) (wr1 (dcC (kdV (ν 1)) ps (ν 9, 0) f) (ν 1 (5 + f)))) H.size (n := (ps f)) (lN := (wr1 (dcC (kdV (ν 1)) ps (ν 9, 0) f) (ν 1 (5 + f))).2) (by omega) (LM_n _ _) (by first | omega | (simp only [wr1, wrn]; omega))) k_X10_225 (r_recv hW (x := 0) (List.mem_range.mpr (by decide)) rfl rfl) (hl.1) rfl rfl (Nat.le_of_ble_eq_true rfl) ⟨Nat.le_of_ble_eq_true rfl, Nat.le_of_ble_eq_true rfl⟩ ⟨Nat.le_of_ble_eq_true rfl, Nat.le_of_ble_eq_true rfl⟩ dX10_describeChain_67) hW (fun u67 H locs hp67 hW => ?_)
            have hmhp67 : u67 = LM (up1 ν 0 (upd (ν 0) 0 (nI 0))) (wrn (wr1 (dcC (kdV (ν 1)) ps (ν 9, 0) f) (ν 1 (5 + f))) (ps f)) := by rw [hp67]; exact LM_wrn _ _ _
            subst hmhp67
            refine lv_iinc (v := (nI (f + 1))) (lv' := [(1, .int (nI (f + 1))), (0, .ref (B 0))]) hxe hcd dX10_describeChain_70 hl (k := 1) rfl (nI_add f 1) (by decide) rfl (fun ls hl => ?_)
            refine lv_goto (tgt := 12) hxe hcd dX10_describeChain_73 (by decide) ?_
            exact ih12 (f + 1) (by omega) (by omega) _ _ _ (by rw [dcC, if_neg (show ¬ kdV (ν 1) f = nI 102 from c54), if_pos c23]; exact hW) (lv_sub hl [1, 0] rfl)
        · refine lv_aload_n hxe hcd dX10_describeChain_26 rfl (lv_at hl 0 rfl) ?_
          refine lv_bipush (v := (nI 62)) hxe hcd dX10_describeChain_27 (by decide) ?_
          refine r_callv (F := (mE Z B)) (r_runV hZ S hW (As := [.int (nI 62)]) (rest := []) (t_X10_writes l hZ B (LM (up1 ν 0 (upd (ν 0) 0 (nI 0))) (dcC (kdV (ν 1)) ps (ν 9, 0) f)) H.size (lN := (dcC (kdV (ν 1)) ps (ν 9, 0) f).2) (LM_n _ _) (by first | omega | (simp only [wr1, wrn]; omega)) (nI 62)) k_X10_222 (r_recv hW (x := 0) (List.mem_range.mpr (by decide)) rfl rfl) (hl.1) rfl rfl (Nat.le_of_ble_eq_true rfl) ⟨Nat.le_of_ble_eq_true rfl, Nat.le_of_ble_eq_true rfl⟩ ⟨Nat.le_of_ble_eq_true rfl, Nat.le_of_ble_eq_true rfl⟩ dX10_describeChain_29) hW (fun u29 H locs hp29 hW => ?_)
          have hmhp29 : u29 = LM (up1 ν 0 (upd (ν 0) 0 (nI 0))) (wr1 (dcC (kdV (ν 1)) ps (ν 9, 0) f) (nI 62)) := by rw [hp29]; exact LM_wr1 _ _ _
          subst hmhp29
          refine lv_aload_n hxe hcd dX10_describeChain_32 rfl (lv_at hl 0 rfl) ?_
          refine lv_aload_n hxe hcd dX10_describeChain_33 rfl (lv_at hl 0 rfl) ?_
          refine gf_X10_16 S hW dX10_describeChain_34 ?_
          refine lv_iconst (v := (nI 5)) hxe hcd dX10_describeChain_37 (by decide) ?_
          refine lv_iload_n hxe hcd dX10_describeChain_38 rfl (lv_at hl 1 rfl) ?_
          refine n_iadd S (a := 5) (b := f) dX10_describeChain_39 ?_
          refine gm_ald S hW (i := 1) (k := (5 + f)) (n := 1357) (by decide) (by decide) rfl (by omega) dX10_describeChain_40 ?_
          refine r_as (y := (ν 1 (5 + f))) (rfl) ?_
          refine r_callv (F := (mE Z B)) (r_runV hZ S hW (As := [.int (ν 1 (5 + f))]) (rest := []) (t_X10_writes l hZ B (LM (up1 ν 0 (upd (ν 0) 0 (nI 0))) (wr1 (dcC (kdV (ν 1)) ps (ν 9, 0) f) (nI 62))) H.size (lN := (wr1 (dcC (kdV (ν 1)) ps (ν 9, 0) f) (nI 62)).2) (LM_n _ _) (by first | omega | (simp only [wr1, wrn]; omega)) (ν 1 (5 + f))) k_X10_222 (r_recv hW (x := 0) (List.mem_range.mpr (by decide)) rfl rfl) (hl.1) rfl rfl (Nat.le_of_ble_eq_true rfl) ⟨Nat.le_of_ble_eq_true rfl, Nat.le_of_ble_eq_true rfl⟩ ⟨Nat.le_of_ble_eq_true rfl, Nat.le_of_ble_eq_true rfl⟩ dX10_describeChain_41) hW (fun u41 H locs hp41 hW => ?_)
          have hmhp41 : u41 = LM (up1 ν 0 (upd (ν 0) 0 (nI 0))) (wr1 (wr1 (dcC (kdV (ν 1)) ps (ν 9, 0) f) (nI 62)) (ν 1 (5 + f))) := by rw [hp41]; exact LM_wr1 _ _ _
          subst hmhp41
          refine lv_aload_n hxe hcd dX10_describeChain_44 rfl (lv_at hl 0 rfl) ?_
          refine gf_X10_16 S hW dX10_describeChain_45 ?_
          refine lv_iconst (v := (nI 5)) hxe hcd dX10_describeChain_48 (by decide) ?_
          refine lv_iload_n hxe hcd dX10_describeChain_49 rfl (lv_at hl 1 rfl) ?_
          refine n_iadd S (a := 5) (b := f) dX10_describeChain_50 ?_
          refine gm_ald S hW (i := 1) (k := (5 + f)) (n := 1357) (by decide) (by decide) rfl (by omega) dX10_describeChain_51 ?_
          refine r_as (y := (ν 1 (5 + f))) (rfl) ?_
          refine lv_bipush (v := (nI 102)) hxe hcd dX10_describeChain_52 (by decide) ?_
          refine lv_icmp_eq (tgt := 70) hxe hcd dX10_describeChain_54 (by decide) (fun c54 => ?_) (fun c54 => ?_)
          · refine lv_iinc (v := (nI (f + 1))) (lv' := [(1, .int (nI (f + 1))), (0, .ref (B 0))]) hxe hcd dX10_describeChain_70 hl (k := 1) rfl (nI_add f 1) (by decide) rfl (fun ls hl => ?_)
            refine lv_goto (tgt := 12) hxe hcd dX10_describeChain_73 (by decide) ?_
            exact ih12 (f + 1) (by omega) (by omega) _ _ _ (by rw [dcC, if_pos (show kdV (ν 1) f = nI 102 from c54), if_neg c23]; exact hW) (lv_sub hl [1, 0] rfl)
          · have hpf := hps f (by omega)
            have hnd3 := nd_3 (n := ps f) (by omega)
            refine lv_aload_n hxe hcd dX10_describeChain_57 rfl (lv_at hl 0 rfl) ?_
            refine lv_aload_n hxe hcd dX10_describeChain_58 rfl (lv_at hl 0 rfl) ?_
            refine gf_X10_16 S hW dX10_describeChain_59 ?_
            refine lv_bipush (v := (nI 13)) hxe hcd dX10_describeChain_62 (by decide) ?_
            refine lv_iload_n hxe hcd dX10_describeChain_64 rfl (lv_at hl 1 rfl) ?_
            refine n_iadd S (a := 13) (b := f) dX10_describeChain_65 ?_
            refine gm_ald S hW (i := 1) (k := (13 + f)) (n := 1357) (by decide) (by decide) rfl (by omega) dX10_describeChain_66 ?_
            refine r_as (y := (nI (ps f))) ((hps f (by omega)).1) ?_
            refine r_callv (F := (mE Z B)) (r_runV hZ S hW (As := [.int (nI (ps f))]) (rest := []) (t_X10_writesNumber l hZ B (LM (up1 ν 0 (upd (ν 0) 0 (nI 0))) (wr1 (wr1 (dcC (kdV (ν 1)) ps (ν 9, 0) f) (nI 62)) (ν 1 (5 + f)))) H.size (n := (ps f)) (lN := (wr1 (wr1 (dcC (kdV (ν 1)) ps (ν 9, 0) f) (nI 62)) (ν 1 (5 + f))).2) (by omega) (LM_n _ _) (by first | omega | (simp only [wr1, wrn]; omega))) k_X10_225 (r_recv hW (x := 0) (List.mem_range.mpr (by decide)) rfl rfl) (hl.1) rfl rfl (Nat.le_of_ble_eq_true rfl) ⟨Nat.le_of_ble_eq_true rfl, Nat.le_of_ble_eq_true rfl⟩ ⟨Nat.le_of_ble_eq_true rfl, Nat.le_of_ble_eq_true rfl⟩ dX10_describeChain_67) hW (fun u67 H locs hp67 hW => ?_)
            have hmhp67 : u67 = LM (up1 ν 0 (upd (ν 0) 0 (nI 0))) (wrn (wr1 (wr1 (dcC (kdV (ν 1)) ps (ν 9, 0) f) (nI 62)) (ν 1 (5 + f))) (ps f)) := by rw [hp67]; exact LM_wrn _ _ _
            subst hmhp67
            refine lv_iinc (v := (nI (f + 1))) (lv' := [(1, .int (nI (f + 1))), (0, .ref (B 0))]) hxe hcd dX10_describeChain_70 hl (k := 1) rfl (nI_add f 1) (by decide) rfl (fun ls hl => ?_)
            refine lv_goto (tgt := 12) hxe hcd dX10_describeChain_73 (by decide) ?_
            exact ih12 (f + 1) (by omega) (by omega) _ _ _ (by rw [dcC, if_neg (show ¬ kdV (ν 1) f = nI 102 from c54), if_neg c23]; exact hW) (lv_sub hl [1, 0] rfl)
  exact loop12 (nf + 1) 0 (Nat.lt_succ_self _) (Nat.zero_le _) _ _ _ (by rw [dcC, show LM (up1 ν 0 (upd (ν 0) 0 (nI 0))) (ν 9, 0) = up1 (up1 ν 0 (upd (ν 0) 0 (nI 0))) 0 (upd ((up1 ν 0 (upd (ν 0) 0 (nI 0))) 0) 20 (nI 0)) from LM_0 _ 0]; exact hW) (lv_sub hl [1, 0] rfl)
set_option maxHeartbeats 4000000 in
set_option maxRecDepth 100000 in
theorem t_X10_describeTank (l : Launch) {Z : ZT} (hZ : zOK Z) (B : Nat → Nat) (ν : MM) (sz : Nat) {nt : Nat} (hnt : ν 1 1 = nI nt) (hnt4 : nt ≤ 4) (cp lv : Nat → Nat) (hV : VT (ν 1) nt cp lv) (tu : Nat → Nat) (htu : ∀ t, t < nt → ν 1 (29 + 12 * t + 1) = nI (tu t) ∧ tu t ≤ 9999) (fr : Nat → Nat → Nat) (hfr : ∀ t k, t < nt → k < lv t → ν 1 (29 + 12 * t + (3 + k)) = nI (fr t k) ∧ fr t k < 1000000) (x : Int32) : XMi l yX10_describeTank cX10_describeTank 3 (some .int) 2 [.ref (B 0), .int x] Z mds B (mE Z B) ν sz (fun r u => (¬ IX x nt ∧ r = nI 0 ∧ u = up1 ν 0 (upd (ν 0) 0 (nI 1))) ∨ (∃ q, q < nt ∧ x = nI q ∧ r = nI (dcT (fr q) (dcH (lv q) (cp q) (tu q) (ν 9, 0)) (lv q)).2 ∧ u = LM (up1 ν 0 (upd (ν 0) 0 (nI 0))) (dcT (fr q) (dcH (lv q) (cp q) (tu q) (ν 9, 0)) (lv q)))) := by
  refine r_met (E := (mE Z B ν)) (by decide +kernel) (Nat.le_of_ble_eq_true rfl) ?_
  intro p e s m below meth c ls S hr hlk hnm hsz hW hl
  have hxe := S.1
  have hcd := S.2.1
  subst hsz
  have hl : lv_has ls 3 [(0, .ref (B 0)), (1, .int x)] := hl
  refine lv_aload_n hxe hcd dX10_describeTank_0 rfl (lv_at hl 0 rfl) ?_
  refine lv_aload_n hxe hcd dX10_describeTank_1 rfl (lv_at hl 0 rfl) ?_
  refine lv_iload_n hxe hcd dX10_describeTank_2 rfl (lv_at hl 1 rfl) ?_
  refine r_calli0 (r_runV hZ S hW (As := [.int x]) (rest := [.ref (B 0)]) (t_X10_isTank l hZ B ν s.heap.size hnt hnt4 x) k_X10_150 (r_recv hW (x := 0) (List.mem_range.mpr (by decide)) rfl rfl) (hl.1) rfl rfl (Nat.le_of_ble_eq_true rfl) ⟨Nat.le_of_ble_eq_true rfl, Nat.le_of_ble_eq_true rfl⟩ ⟨Nat.le_of_ble_eq_true rfl, Nat.le_of_ble_eq_true rfl⟩ dX10_describeTank_3) hW (fun r3 H locs hp3 hW => ?_)
  rcases hp3 with ⟨hp30, hp3⟩ | ⟨hp30, hp3⟩
  · subst hp30
    refine lv_if_eq (tgt := 13) hxe hcd dX10_describeTank_6 (by decide) (fun h => absurd h (by decide)) (fun _ => ?_)
    refine lv_iconst (v := (nI 0)) hxe hcd dX10_describeTank_9 (by decide) ?_
    refine lv_goto (tgt := 14) hxe hcd dX10_describeTank_10 (by decide) ?_
    refine gp_X10_53 S hW dX10_describeTank_14 (fun H locs hW => ?_)
    refine lv_aload_n hxe hcd dX10_describeTank_17 rfl (lv_at hl 0 rfl) ?_
    refine gf_X10_53 S hW dX10_describeTank_18 ?_
    refine r_as (y := (nI 0)) (by rw [up1_s, upd_s]) ?_
    refine lv_if_eq (tgt := 26) hxe hcd dX10_describeTank_21 (by decide) (fun _ => ?_) (fun h => absurd (by decide) h)
    refine lv_aload_n hxe hcd dX10_describeTank_26 rfl (lv_at hl 0 rfl) ?_
    refine lv_iconst (v := (nI 0)) hxe hcd dX10_describeTank_27 (by decide) ?_
    refine gp_X10_219 S hW dX10_describeTank_28 (fun H locs hW => ?_)
    obtain ⟨q, hq, rfl⟩ := hp3
    have hvq := hV q hq
    have htq := htu q hq
    have hd1 := nd_0 (n := lv q) (by omega)
    have hd2 := nd_0 (n := cp q) (by omega)
    have hd4 := nd_4 (n := tu q) (by omega)
    rw [show up1 (up1 ν 0 (upd (ν 0) 0 (nI 0))) 0 (upd ((up1 ν 0 (upd (ν 0) 0 (nI 0))) 0) 20 (nI 0)) = LM (up1 ν 0 (upd (ν 0) 0 (nI 0))) (ν 9, 0) from (LM_0 _ 0).symm] at hW
    refine lv_aload_n hxe hcd dX10_describeTank_31 rfl (lv_at hl 0 rfl) ?_
    refine lv_aload_n hxe hcd dX10_describeTank_32 rfl (lv_at hl 0 rfl) ?_
    refine gf_X10_16 S hW dX10_describeTank_33 ?_
    refine lv_iload_n hxe hcd dX10_describeTank_36 rfl (lv_at hl 1 rfl) ?_
    refine lv_iconst (v := (nI 2)) hxe hcd dX10_describeTank_37 (by decide) ?_
    refine r_calli0 (r_runS hZ S hW (As := [.int (nI q), .int (nI 2)]) (rest := [.ref (B 1), .ref (B 0)]) (t_X10_of l hZ mds B (mE Z B (LM (up1 ν 0 (upd (ν 0) 0 (nI 0))) (ν 9, 0))) H.size (t := q) (w := 2)) k_X10_144 (hl.1) rfl rfl (Nat.le_of_ble_eq_true rfl) ⟨Nat.le_of_ble_eq_true rfl, Nat.le_of_ble_eq_true rfl⟩ ⟨Nat.le_of_ble_eq_true rfl, Nat.le_of_ble_eq_true rfl⟩ dX10_describeTank_38) hW (fun r38 H locs hp38 hW => ?_)
    have hp38 := hp38.symm
    subst hp38
    refine gm_ald S hW (i := 1) (k := (29 + 12 * q + 2)) (n := 1357) (by decide) (by decide) rfl (by omega) dX10_describeTank_41 ?_
    refine r_as (y := (nI (lv q))) (hvq.2.1) ?_
    refine r_callv (F := (mE Z B)) (r_runV hZ S hW (As := [.int (nI (lv q))]) (rest := []) (t_X10_writesNumber l hZ B (LM (up1 ν 0 (upd (ν 0) 0 (nI 0))) (ν 9, 0)) H.size (n := (lv q)) (lN := (ν 9, 0).2) (by omega) (LM_n _ _) (by first | omega | (simp only [wr1, wrn]; omega))) k_X10_225 (r_recv hW (x := 0) (List.mem_range.mpr (by decide)) rfl rfl) (hl.1) rfl rfl (Nat.le_of_ble_eq_true rfl) ⟨Nat.le_of_ble_eq_true rfl, Nat.le_of_ble_eq_true rfl⟩ ⟨Nat.le_of_ble_eq_true rfl, Nat.le_of_ble_eq_true rfl⟩ dX10_describeTank_42) hW (fun u42 H locs hp42 hW => ?_)
    have hmhp42 : u42 = LM (up1 ν 0 (upd (ν 0) 0 (nI 0))) (wrn (ν 9, 0) (lv q)) := by rw [hp42]; exact LM_wrn _ _ _
    subst hmhp42
    refine lv_aload_n hxe hcd dX10_describeTank_45 rfl (lv_at hl 0 rfl) ?_
    refine lv_bipush (v := (nI 47)) hxe hcd dX10_describeTank_46 (by decide) ?_
    refine r_callv (F := (mE Z B)) (r_runV hZ S hW (As := [.int (nI 47)]) (rest := []) (t_X10_writes l hZ B (LM (up1 ν 0 (upd (ν 0) 0 (nI 0))) (wrn (ν 9, 0) (lv q))) H.size (lN := (wrn (ν 9, 0) (lv q)).2) (LM_n _ _) (by first | omega | (simp only [wr1, wrn]; omega)) (nI 47)) k_X10_222 (r_recv hW (x := 0) (List.mem_range.mpr (by decide)) rfl rfl) (hl.1) rfl rfl (Nat.le_of_ble_eq_true rfl) ⟨Nat.le_of_ble_eq_true rfl, Nat.le_of_ble_eq_true rfl⟩ ⟨Nat.le_of_ble_eq_true rfl, Nat.le_of_ble_eq_true rfl⟩ dX10_describeTank_48) hW (fun u48 H locs hp48 hW => ?_)
    have hmhp48 : u48 = LM (up1 ν 0 (upd (ν 0) 0 (nI 0))) (wr1 (wrn (ν 9, 0) (lv q)) (nI 47)) := by rw [hp48]; exact LM_wr1 _ _ _
    subst hmhp48
    refine lv_aload_n hxe hcd dX10_describeTank_51 rfl (lv_at hl 0 rfl) ?_
    refine lv_aload_n hxe hcd dX10_describeTank_52 rfl (lv_at hl 0 rfl) ?_
    refine gf_X10_16 S hW dX10_describeTank_53 ?_
    refine lv_iload_n hxe hcd dX10_describeTank_56 rfl (lv_at hl 1 rfl) ?_
    refine lv_iconst (v := (nI 0)) hxe hcd dX10_describeTank_57 (by decide) ?_
    refine r_calli0 (r_runS hZ S hW (As := [.int (nI q), .int (nI 0)]) (rest := [.ref (B 1), .ref (B 0)]) (t_X10_of l hZ mds B (mE Z B (LM (up1 ν 0 (upd (ν 0) 0 (nI 0))) (wr1 (wrn (ν 9, 0) (lv q)) (nI 47)))) H.size (t := q) (w := 0)) k_X10_144 (hl.1) rfl rfl (Nat.le_of_ble_eq_true rfl) ⟨Nat.le_of_ble_eq_true rfl, Nat.le_of_ble_eq_true rfl⟩ ⟨Nat.le_of_ble_eq_true rfl, Nat.le_of_ble_eq_true rfl⟩ dX10_describeTank_58) hW (fun r58 H locs hp58 hW => ?_)
    have hp58 := hp58.symm
    subst hp58
    refine gm_ald S hW (i := 1) (k := (29 + 12 * q + 0)) (n := 1357) (by decide) (by decide) rfl (by omega) dX10_describeTank_61 ?_
    refine r_as (y := (nI (cp q))) (hvq.1) ?_
    refine r_callv (F := (mE Z B)) (r_runV hZ S hW (As := [.int (nI (cp q))]) (rest := []) (t_X10_writesNumber l hZ B (LM (up1 ν 0 (upd (ν 0) 0 (nI 0))) (wr1 (wrn (ν 9, 0) (lv q)) (nI 47))) H.size (n := (cp q)) (lN := (wr1 (wrn (ν 9, 0) (lv q)) (nI 47)).2) (by omega) (LM_n _ _) (by first | omega | (simp only [wr1, wrn]; omega))) k_X10_225 (r_recv hW (x := 0) (List.mem_range.mpr (by decide)) rfl rfl) (hl.1) rfl rfl (Nat.le_of_ble_eq_true rfl) ⟨Nat.le_of_ble_eq_true rfl, Nat.le_of_ble_eq_true rfl⟩ ⟨Nat.le_of_ble_eq_true rfl, Nat.le_of_ble_eq_true rfl⟩ dX10_describeTank_62) hW (fun u62 H locs hp62 hW => ?_)
    have hmhp62 : u62 = LM (up1 ν 0 (upd (ν 0) 0 (nI 0))) (wrn (wr1 (wrn (ν 9, 0) (lv q)) (nI 47)) (cp q)) := by rw [hp62]; exact LM_wrn _ _ _
    subst hmhp62
    refine lv_aload_n hxe hcd dX10_describeTank_65 rfl (lv_at hl 0 rfl) ?_
    refine gf_X10_16 S hW dX10_describeTank_66 ?_
    refine lv_iload_n hxe hcd dX10_describeTank_69 rfl (lv_at hl 1 rfl) ?_
    refine lv_iconst (v := (nI 1)) hxe hcd dX10_describeTank_70 (by decide) ?_
    refine r_calli0 (r_runS hZ S hW (As := [.int (nI q), .int (nI 1)]) (rest := [.ref (B 1)]) (t_X10_of l hZ mds B (mE Z B (LM (up1 ν 0 (upd (ν 0) 0 (nI 0))) (wrn (wr1 (wrn (ν 9, 0) (lv q)) (nI 47)) (cp q)))) H.size (t := q) (w := 1)) k_X10_144 (hl.1) rfl rfl (Nat.le_of_ble_eq_true rfl) ⟨Nat.le_of_ble_eq_true rfl, Nat.le_of_ble_eq_true rfl⟩ ⟨Nat.le_of_ble_eq_true rfl, Nat.le_of_ble_eq_true rfl⟩ dX10_describeTank_71) hW (fun r71 H locs hp71 hW => ?_)
    have hp71 := hp71.symm
    subst hp71
    refine gm_ald S hW (i := 1) (k := (29 + 12 * q + 1)) (n := 1357) (by decide) (by decide) rfl (by omega) dX10_describeTank_74 ?_
    refine r_as (y := (nI (tu q))) (htq.1) ?_
    refine lv_sipush (v := (nI 9999)) hxe hcd dX10_describeTank_75 (by decide) ?_
    refine n_eq S (a := (tu q)) (b := 9999) (by omega) (by omega) dX10_describeTank_78 (tgt := 101) (by decide) (fun c78 => ?_) (fun c78 => ?_)
    · refine lv_iconst (v := (nI 0)) hxe hcd dX10_describeTank_101 (by decide) ?_
      refine lv_istore_n (lv' := [(2, .int (nI 0)), (0, .ref (B 0)), (1, .int (nI q))]) hxe hcd dX10_describeTank_102 rfl hl (by decide) rfl (fun ls hl => ?_)
      have loop103 : ∀ (n_ : Nat) (k : Nat), lv q - k < n_ → (k ≤ lv q) → ∀ (H : Heap) (locs : List Loc) (ls : Array Slot), wX Z mds B (mE Z B (LM (up1 ν 0 (upd (ν 0) 0 (nI 0))) (dcT (fr q) (dcH (lv q) (cp q) (tu q) (ν 9, 0)) k))) (fA mds B (mE Z B ν) s.heap.size) s H locs → lv_has ls 3 [(0, .ref (B 0)), (1, .int (nI q)), (2, .int (nI k))] → W p l e (rmD 2 0 0) s m ([.ref (B 0), .int (nI q)] : List Value).toArray below meth c H locs 0 0 (MQ below (va_Qi (fun r u => (¬ IX (nI q) nt ∧ r = nI 0 ∧ u = up1 ν 0 (upd (ν 0) 0 (nI 1))) ∨ (∃ q_z, q_z < nt ∧ (nI q) = nI q_z ∧ r = nI (dcT (fr q_z) (dcH (lv q_z) (cp q_z) (tu q_z) (ν 9, 0)) (lv q_z)).2 ∧ u = LM (up1 ν 0 (upd (ν 0) 0 (nI 0))) (dcT (fr q_z) (dcH (lv q_z) (cp q_z) (tu q_z) (ν 9, 0)) (lv q_z)))) (fun u t => qB Z mds B ((mE Z B) u) (fA mds B (mE Z B ν) s.heap.size) t) (fA mds B (mE Z B ν) s.heap.size)) ([.ref (B 0), .int (nI q)] : List Value).toArray s 0 0 (fA mds B (mE Z B ν) s.heap.size)) (F0 m 103 ls []) := by
        intro n_
        induction n_ with
        | zero => intro k hm; exact absurd hm (Nat.not_lt_zero _)
        | succ n_ ih103 =>
          intro k hm hk H locs ls hW hl
          have hh : (dcH (lv q) (cp q) (tu q) (ν 9, 0)).2 ≤ 0 + 8 := dcH_le (by omega) (by omega) (by omega)
          have hle := dcT_le (fr := fr q) (w := dcH (lv q) (cp q) (tu q) (ν 9, 0)) k
          refine lv_iload_n hxe hcd dX10_describeTank_103 rfl (lv_at hl 2 rfl) ?_
          refine lv_aload_n hxe hcd dX10_describeTank_104 rfl (lv_at hl 0 rfl) ?_
          refine gf_X10_16 S hW dX10_describeTank_105 ?_
          refine lv_iload_n hxe hcd dX10_describeTank_108 rfl (lv_at hl 1 rfl) ?_
          refine lv_iconst (v := (nI 2)) hxe hcd dX10_describeTank_109 (by decide) ?_
          refine r_calli0 (r_runS hZ S hW (As := [.int (nI q), .int (nI 2)]) (rest := [.ref (B 1), .int (nI k)]) (t_X10_of l hZ mds B (mE Z B (LM (up1 ν 0 (upd (ν 0) 0 (nI 0))) (dcT (fr q) (dcH (lv q) (cp q) (tu q) (ν 9, 0)) k))) H.size (t := q) (w := 2)) k_X10_144 (hl.1) rfl rfl (Nat.le_of_ble_eq_true rfl) ⟨Nat.le_of_ble_eq_true rfl, Nat.le_of_ble_eq_true rfl⟩ ⟨Nat.le_of_ble_eq_true rfl, Nat.le_of_ble_eq_true rfl⟩ dX10_describeTank_110) hW (fun r110 H locs hp110 hW => ?_)
          have hp110 := hp110.symm
          subst hp110
          refine gm_ald S hW (i := 1) (k := (29 + 12 * q + 2)) (n := 1357) (by decide) (by decide) rfl (by omega) dX10_describeTank_113 ?_
          refine r_as (y := (nI (lv q))) (hvq.2.1) ?_
          refine n_ge S (a := k) (b := (lv q)) (by omega) (by omega) dX10_describeTank_114 (tgt := 145) (by decide) (fun c114 => ?_) (fun c114 => ?_)
          · refine lv_aload_n hxe hcd dX10_describeTank_145 rfl (lv_at hl 0 rfl) ?_
            refine gf_X10_219 S hW dX10_describeTank_146 ?_
            refine r_as (y := (nI ((dcT (fr q) (dcH (lv q) (cp q) (tu q) (ν 9, 0)) k).2))) (LM_n _ _) ?_
            refine r_iret S hr hlk (F := (mE Z B)) (u := (LM (up1 ν 0 (upd (ν 0) 0 (nI 0))) (dcT (fr q) (dcH (lv q) (cp q) (tu q) (ν 9, 0)) k))) hW ?_ dX10_describeTank_149
            rw [show k = lv q by omega]
            exact Or.inr ⟨q, hq, rfl, rfl, rfl⟩
          · refine lv_aload_n hxe hcd dX10_describeTank_117 rfl (lv_at hl 0 rfl) ?_
            refine lv_bipush (v := (nI 32)) hxe hcd dX10_describeTank_118 (by decide) ?_
            refine r_callv (F := (mE Z B)) (r_runV hZ S hW (As := [.int (nI 32)]) (rest := []) (t_X10_writes l hZ B (LM (up1 ν 0 (upd (ν 0) 0 (nI 0))) (dcT (fr q) (dcH (lv q) (cp q) (tu q) (ν 9, 0)) k)) H.size (lN := (dcT (fr q) (dcH (lv q) (cp q) (tu q) (ν 9, 0)) k).2) (LM_n _ _) (by first | omega | (simp only [wr1, wrn]; omega)) (nI 32)) k_X10_222 (r_recv hW (x := 0) (List.mem_range.mpr (by decide)) rfl rfl) (hl.1) rfl rfl (Nat.le_of_ble_eq_true rfl) ⟨Nat.le_of_ble_eq_true rfl, Nat.le_of_ble_eq_true rfl⟩ ⟨Nat.le_of_ble_eq_true rfl, Nat.le_of_ble_eq_true rfl⟩ dX10_describeTank_120) hW (fun u120 H locs hp120 hW => ?_)
            have hmhp120 : u120 = LM (up1 ν 0 (upd (ν 0) 0 (nI 0))) (wr1 (dcT (fr q) (dcH (lv q) (cp q) (tu q) (ν 9, 0)) k) (nI 32)) := by rw [hp120]; exact LM_wr1 _ _ _
            subst hmhp120
            have hfk := hfr q k hq (by omega)
            have hd6 := nd_6 (fr q k)
            refine lv_aload_n hxe hcd dX10_describeTank_123 rfl (lv_at hl 0 rfl) ?_
            refine lv_aload_n hxe hcd dX10_describeTank_124 rfl (lv_at hl 0 rfl) ?_
            refine gf_X10_16 S hW dX10_describeTank_125 ?_
            refine lv_iload_n hxe hcd dX10_describeTank_128 rfl (lv_at hl 1 rfl) ?_
            refine lv_iconst (v := (nI 3)) hxe hcd dX10_describeTank_129 (by decide) ?_
            refine lv_iload_n hxe hcd dX10_describeTank_130 rfl (lv_at hl 2 rfl) ?_
            refine n_iadd S (a := 3) (b := k) dX10_describeTank_131 ?_
            refine r_calli0 (r_runS hZ S hW (As := [.int (nI q), .int (nI (3 + k))]) (rest := [.ref (B 1), .ref (B 0)]) (t_X10_of l hZ mds B (mE Z B (LM (up1 ν 0 (upd (ν 0) 0 (nI 0))) (wr1 (dcT (fr q) (dcH (lv q) (cp q) (tu q) (ν 9, 0)) k) (nI 32)))) H.size (t := q) (w := (3 + k))) k_X10_144 (hl.1) rfl rfl (Nat.le_of_ble_eq_true rfl) ⟨Nat.le_of_ble_eq_true rfl, Nat.le_of_ble_eq_true rfl⟩ ⟨Nat.le_of_ble_eq_true rfl, Nat.le_of_ble_eq_true rfl⟩ dX10_describeTank_132) hW (fun r132 H locs hp132 hW => ?_)
            have hp132 := hp132.symm
            subst hp132
            refine gm_ald S hW (i := 1) (k := (29 + 12 * q + (3 + k))) (n := 1357) (by decide) (by decide) rfl (by omega) dX10_describeTank_135 ?_
            refine r_as (y := (nI (fr q k))) ((hfr q k hq (by omega)).1) ?_
            refine r_callv (F := (mE Z B)) (r_runV hZ S hW (As := [.int (nI (fr q k))]) (rest := []) (t_X10_writesNumber l hZ B (LM (up1 ν 0 (upd (ν 0) 0 (nI 0))) (wr1 (dcT (fr q) (dcH (lv q) (cp q) (tu q) (ν 9, 0)) k) (nI 32))) H.size (n := (fr q k)) (lN := (wr1 (dcT (fr q) (dcH (lv q) (cp q) (tu q) (ν 9, 0)) k) (nI 32)).2) (by omega) (LM_n _ _) (by first | omega | (simp only [wr1, wrn]; omega))) k_X10_225 (r_recv hW (x := 0) (List.mem_range.mpr (by decide)) rfl rfl) (hl.1) rfl rfl (Nat.le_of_ble_eq_true rfl) ⟨Nat.le_of_ble_eq_true rfl, Nat.le_of_ble_eq_true rfl⟩ ⟨Nat.le_of_ble_eq_true rfl, Nat.le_of_ble_eq_true rfl⟩ dX10_describeTank_136) hW (fun u136 H locs hp136 hW => ?_)
            have hmhp136 : u136 = LM (up1 ν 0 (upd (ν 0) 0 (nI 0))) (wrn (wr1 (dcT (fr q) (dcH (lv q) (cp q) (tu q) (ν 9, 0)) k) (nI 32)) (fr q k)) := by rw [hp136]; exact LM_wrn _ _ _
            subst hmhp136
            refine lv_iinc (v := (nI (k + 1))) (lv' := [(2, .int (nI (k + 1))), (0, .ref (B 0)), (1, .int (nI q))]) hxe hcd dX10_describeTank_139 hl (k := 2) rfl (nI_add k 1) (by decide) rfl (fun ls hl => ?_)
            refine lv_goto (tgt := 103) hxe hcd dX10_describeTank_142 (by decide) ?_
            exact ih103 (k + 1) (by omega) (by omega) _ _ _ (by rw [dcT]; exact hW) (lv_sub hl [1, 2, 0] rfl)
      exact loop103 ((lv q) + 1) 0 (Nat.lt_succ_self _) (Nat.zero_le _) _ _ _ (by rw [dcT, dcH, if_pos c78]; exact hW) (lv_sub hl [1, 2, 0] rfl)
    · refine lv_aload_n hxe hcd dX10_describeTank_81 rfl (lv_at hl 0 rfl) ?_
      refine lv_bipush (v := (nI 64)) hxe hcd dX10_describeTank_82 (by decide) ?_
      refine r_callv (F := (mE Z B)) (r_runV hZ S hW (As := [.int (nI 64)]) (rest := []) (t_X10_writes l hZ B (LM (up1 ν 0 (upd (ν 0) 0 (nI 0))) (wrn (wr1 (wrn (ν 9, 0) (lv q)) (nI 47)) (cp q))) H.size (lN := (wrn (wr1 (wrn (ν 9, 0) (lv q)) (nI 47)) (cp q)).2) (LM_n _ _) (by first | omega | (simp only [wr1, wrn]; omega)) (nI 64)) k_X10_222 (r_recv hW (x := 0) (List.mem_range.mpr (by decide)) rfl rfl) (hl.1) rfl rfl (Nat.le_of_ble_eq_true rfl) ⟨Nat.le_of_ble_eq_true rfl, Nat.le_of_ble_eq_true rfl⟩ ⟨Nat.le_of_ble_eq_true rfl, Nat.le_of_ble_eq_true rfl⟩ dX10_describeTank_84) hW (fun u84 H locs hp84 hW => ?_)
      have hmhp84 : u84 = LM (up1 ν 0 (upd (ν 0) 0 (nI 0))) (wr1 (wrn (wr1 (wrn (ν 9, 0) (lv q)) (nI 47)) (cp q)) (nI 64)) := by rw [hp84]; exact LM_wr1 _ _ _
      subst hmhp84
      refine lv_aload_n hxe hcd dX10_describeTank_87 rfl (lv_at hl 0 rfl) ?_
      refine lv_aload_n hxe hcd dX10_describeTank_88 rfl (lv_at hl 0 rfl) ?_
      refine gf_X10_16 S hW dX10_describeTank_89 ?_
      refine lv_iload_n hxe hcd dX10_describeTank_92 rfl (lv_at hl 1 rfl) ?_
      refine lv_iconst (v := (nI 1)) hxe hcd dX10_describeTank_93 (by decide) ?_
      refine r_calli0 (r_runS hZ S hW (As := [.int (nI q), .int (nI 1)]) (rest := [.ref (B 1), .ref (B 0)]) (t_X10_of l hZ mds B (mE Z B (LM (up1 ν 0 (upd (ν 0) 0 (nI 0))) (wr1 (wrn (wr1 (wrn (ν 9, 0) (lv q)) (nI 47)) (cp q)) (nI 64)))) H.size (t := q) (w := 1)) k_X10_144 (hl.1) rfl rfl (Nat.le_of_ble_eq_true rfl) ⟨Nat.le_of_ble_eq_true rfl, Nat.le_of_ble_eq_true rfl⟩ ⟨Nat.le_of_ble_eq_true rfl, Nat.le_of_ble_eq_true rfl⟩ dX10_describeTank_94) hW (fun r94 H locs hp94 hW => ?_)
      have hp94 := hp94.symm
      subst hp94
      refine gm_ald S hW (i := 1) (k := (29 + 12 * q + 1)) (n := 1357) (by decide) (by decide) rfl (by omega) dX10_describeTank_97 ?_
      refine r_as (y := (nI (tu q))) (htq.1) ?_
      refine r_callv (F := (mE Z B)) (r_runV hZ S hW (As := [.int (nI (tu q))]) (rest := []) (t_X10_writesNumber l hZ B (LM (up1 ν 0 (upd (ν 0) 0 (nI 0))) (wr1 (wrn (wr1 (wrn (ν 9, 0) (lv q)) (nI 47)) (cp q)) (nI 64))) H.size (n := (tu q)) (lN := (wr1 (wrn (wr1 (wrn (ν 9, 0) (lv q)) (nI 47)) (cp q)) (nI 64)).2) (by omega) (LM_n _ _) (by first | omega | (simp only [wr1, wrn]; omega))) k_X10_225 (r_recv hW (x := 0) (List.mem_range.mpr (by decide)) rfl rfl) (hl.1) rfl rfl (Nat.le_of_ble_eq_true rfl) ⟨Nat.le_of_ble_eq_true rfl, Nat.le_of_ble_eq_true rfl⟩ ⟨Nat.le_of_ble_eq_true rfl, Nat.le_of_ble_eq_true rfl⟩ dX10_describeTank_98) hW (fun u98 H locs hp98 hW => ?_)
      have hmhp98 : u98 = LM (up1 ν 0 (upd (ν 0) 0 (nI 0))) (wrn (wr1 (wrn (wr1 (wrn (ν 9, 0) (lv q)) (nI 47)) (cp q)) (nI 64)) (tu q)) := by rw [hp98]; exact LM_wrn _ _ _
      subst hmhp98
      refine lv_iconst (v := (nI 0)) hxe hcd dX10_describeTank_101 (by decide) ?_
      refine lv_istore_n (lv' := [(2, .int (nI 0)), (0, .ref (B 0)), (1, .int (nI q))]) hxe hcd dX10_describeTank_102 rfl hl (by decide) rfl (fun ls hl => ?_)
      have loop103 : ∀ (n_ : Nat) (k : Nat), lv q - k < n_ → (k ≤ lv q) → ∀ (H : Heap) (locs : List Loc) (ls : Array Slot), wX Z mds B (mE Z B (LM (up1 ν 0 (upd (ν 0) 0 (nI 0))) (dcT (fr q) (dcH (lv q) (cp q) (tu q) (ν 9, 0)) k))) (fA mds B (mE Z B ν) s.heap.size) s H locs → lv_has ls 3 [(0, .ref (B 0)), (1, .int (nI q)), (2, .int (nI k))] → W p l e (rmD 2 0 0) s m ([.ref (B 0), .int (nI q)] : List Value).toArray below meth c H locs 0 0 (MQ below (va_Qi (fun r u => (¬ IX (nI q) nt ∧ r = nI 0 ∧ u = up1 ν 0 (upd (ν 0) 0 (nI 1))) ∨ (∃ q_z, q_z < nt ∧ (nI q) = nI q_z ∧ r = nI (dcT (fr q_z) (dcH (lv q_z) (cp q_z) (tu q_z) (ν 9, 0)) (lv q_z)).2 ∧ u = LM (up1 ν 0 (upd (ν 0) 0 (nI 0))) (dcT (fr q_z) (dcH (lv q_z) (cp q_z) (tu q_z) (ν 9, 0)) (lv q_z)))) (fun u t => qB Z mds B ((mE Z B) u) (fA mds B (mE Z B ν) s.heap.size) t) (fA mds B (mE Z B ν) s.heap.size)) ([.ref (B 0), .int (nI q)] : List Value).toArray s 0 0 (fA mds B (mE Z B ν) s.heap.size)) (F0 m 103 ls []) := by
        intro n_
        induction n_ with
        | zero => intro k hm; exact absurd hm (Nat.not_lt_zero _)
        | succ n_ ih103 =>
          intro k hm hk H locs ls hW hl
          have hh : (dcH (lv q) (cp q) (tu q) (ν 9, 0)).2 ≤ 0 + 8 := dcH_le (by omega) (by omega) (by omega)
          have hle := dcT_le (fr := fr q) (w := dcH (lv q) (cp q) (tu q) (ν 9, 0)) k
          refine lv_iload_n hxe hcd dX10_describeTank_103 rfl (lv_at hl 2 rfl) ?_
          refine lv_aload_n hxe hcd dX10_describeTank_104 rfl (lv_at hl 0 rfl) ?_
          refine gf_X10_16 S hW dX10_describeTank_105 ?_
          refine lv_iload_n hxe hcd dX10_describeTank_108 rfl (lv_at hl 1 rfl) ?_
          refine lv_iconst (v := (nI 2)) hxe hcd dX10_describeTank_109 (by decide) ?_
          refine r_calli0 (r_runS hZ S hW (As := [.int (nI q), .int (nI 2)]) (rest := [.ref (B 1), .int (nI k)]) (t_X10_of l hZ mds B (mE Z B (LM (up1 ν 0 (upd (ν 0) 0 (nI 0))) (dcT (fr q) (dcH (lv q) (cp q) (tu q) (ν 9, 0)) k))) H.size (t := q) (w := 2)) k_X10_144 (hl.1) rfl rfl (Nat.le_of_ble_eq_true rfl) ⟨Nat.le_of_ble_eq_true rfl, Nat.le_of_ble_eq_true rfl⟩ ⟨Nat.le_of_ble_eq_true rfl, Nat.le_of_ble_eq_true rfl⟩ dX10_describeTank_110) hW (fun r110 H locs hp110 hW => ?_)
          have hp110 := hp110.symm
          subst hp110
          refine gm_ald S hW (i := 1) (k := (29 + 12 * q + 2)) (n := 1357) (by decide) (by decide) rfl (by omega) dX10_describeTank_113 ?_
          refine r_as (y := (nI (lv q))) (hvq.2.1) ?_
          refine n_ge S (a := k) (b := (lv q)) (by omega) (by omega) dX10_describeTank_114 (tgt := 145) (by decide) (fun c114 => ?_) (fun c114 => ?_)
          · refine lv_aload_n hxe hcd dX10_describeTank_145 rfl (lv_at hl 0 rfl) ?_
            refine gf_X10_219 S hW dX10_describeTank_146 ?_
            refine r_as (y := (nI ((dcT (fr q) (dcH (lv q) (cp q) (tu q) (ν 9, 0)) k).2))) (LM_n _ _) ?_
            refine r_iret S hr hlk (F := (mE Z B)) (u := (LM (up1 ν 0 (upd (ν 0) 0 (nI 0))) (dcT (fr q) (dcH (lv q) (cp q) (tu q) (ν 9, 0)) k))) hW ?_ dX10_describeTank_149
            rw [show k = lv q by omega]
            exact Or.inr ⟨q, hq, rfl, rfl, rfl⟩
          · refine lv_aload_n hxe hcd dX10_describeTank_117 rfl (lv_at hl 0 rfl) ?_
            refine lv_bipush (v := (nI 32)) hxe hcd dX10_describeTank_118 (by decide) ?_
            refine r_callv (F := (mE Z B)) (r_runV hZ S hW (As := [.int (nI 32)]) (rest := []) (t_X10_writes l hZ B (LM (up1 ν 0 (upd (ν 0) 0 (nI 0))) (dcT (fr q) (dcH (lv q) (cp q) (tu q) (ν 9, 0)) k)) H.size (lN := (dcT (fr q) (dcH (lv q) (cp q) (tu q) (ν 9, 0)) k).2) (LM_n _ _) (by first | omega | (simp only [wr1, wrn]; omega)) (nI 32)) k_X10_222 (r_recv hW (x := 0) (List.mem_range.mpr (by decide)) rfl rfl) (hl.1) rfl rfl (Nat.le_of_ble_eq_true rfl) ⟨Nat.le_of_ble_eq_true rfl, Nat.le_of_ble_eq_true rfl⟩ ⟨Nat.le_of_ble_eq_true rfl, Nat.le_of_ble_eq_true rfl⟩ dX10_describeTank_120) hW (fun u120 H locs hp120 hW => ?_)
            have hmhp120 : u120 = LM (up1 ν 0 (upd (ν 0) 0 (nI 0))) (wr1 (dcT (fr q) (dcH (lv q) (cp q) (tu q) (ν 9, 0)) k) (nI 32)) := by rw [hp120]; exact LM_wr1 _ _ _
            subst hmhp120
            have hfk := hfr q k hq (by omega)
            have hd6 := nd_6 (fr q k)
            refine lv_aload_n hxe hcd dX10_describeTank_123 rfl (lv_at hl 0 rfl) ?_
            refine lv_aload_n hxe hcd dX10_describeTank_124 rfl (lv_at hl 0 rfl) ?_
            refine gf_X10_16 S hW dX10_describeTank_125 ?_
            refine lv_iload_n hxe hcd dX10_describeTank_128 rfl (lv_at hl 1 rfl) ?_
            refine lv_iconst (v := (nI 3)) hxe hcd dX10_describeTank_129 (by decide) ?_
            refine lv_iload_n hxe hcd dX10_describeTank_130 rfl (lv_at hl 2 rfl) ?_
            refine n_iadd S (a := 3) (b := k) dX10_describeTank_131 ?_
            refine r_calli0 (r_runS hZ S hW (As := [.int (nI q), .int (nI (3 + k))]) (rest := [.ref (B 1), .ref (B 0)]) (t_X10_of l hZ mds B (mE Z B (LM (up1 ν 0 (upd (ν 0) 0 (nI 0))) (wr1 (dcT (fr q) (dcH (lv q) (cp q) (tu q) (ν 9, 0)) k) (nI 32)))) H.size (t := q) (w := (3 + k))) k_X10_144 (hl.1) rfl rfl (Nat.le_of_ble_eq_true rfl) ⟨Nat.le_of_ble_eq_true rfl, Nat.le_of_ble_eq_true rfl⟩ ⟨Nat.le_of_ble_eq_true rfl, Nat.le_of_ble_eq_true rfl⟩ dX10_describeTank_132) hW (fun r132 H locs hp132 hW => ?_)
            have hp132 := hp132.symm
            subst hp132
            refine gm_ald S hW (i := 1) (k := (29 + 12 * q + (3 + k))) (n := 1357) (by decide) (by decide) rfl (by omega) dX10_describeTank_135 ?_
            refine r_as (y := (nI (fr q k))) ((hfr q k hq (by omega)).1) ?_
            refine r_callv (F := (mE Z B)) (r_runV hZ S hW (As := [.int (nI (fr q k))]) (rest := []) (t_X10_writesNumber l hZ B (LM (up1 ν 0 (upd (ν 0) 0 (nI 0))) (wr1 (dcT (fr q) (dcH (lv q) (cp q) (tu q) (ν 9, 0)) k) (nI 32))) H.size (n := (fr q k)) (lN := (wr1 (dcT (fr q) (dcH (lv q) (cp q) (tu q) (ν 9, 0)) k) (nI 32)).2) (by omega) (LM_n _ _) (by first | omega | (simp only [wr1, wrn]; omega))) k_X10_225 (r_recv hW (x := 0) (List.mem_range.mpr (by decide)) rfl rfl) (hl.1) rfl rfl (Nat.le_of_ble_eq_true rfl) ⟨Nat.le_of_ble_eq_true rfl, Nat.le_of_ble_eq_true rfl⟩ ⟨Nat.le_of_ble_eq_true rfl, Nat.le_of_ble_eq_true rfl⟩ dX10_describeTank_136) hW (fun u136 H locs hp136 hW => ?_)
            have hmhp136 : u136 = LM (up1 ν 0 (upd (ν 0) 0 (nI 0))) (wrn (wr1 (dcT (fr q) (dcH (lv q) (cp q) (tu q) (ν 9, 0)) k) (nI 32)) (fr q k)) := by rw [hp136]; exact LM_wrn _ _ _
            subst hmhp136
            refine lv_iinc (v := (nI (k + 1))) (lv' := [(2, .int (nI (k + 1))), (0, .ref (B 0)), (1, .int (nI q))]) hxe hcd dX10_describeTank_139 hl (k := 2) rfl (nI_add k 1) (by decide) rfl (fun ls hl => ?_)
            refine lv_goto (tgt := 103) hxe hcd dX10_describeTank_142 (by decide) ?_
            exact ih103 (k + 1) (by omega) (by omega) _ _ _ (by rw [dcT]; exact hW) (lv_sub hl [1, 2, 0] rfl)
      exact loop103 ((lv q) + 1) 0 (Nat.lt_succ_self _) (Nat.zero_le _) _ _ _ (by rw [dcT, dcH, if_neg c78]; exact hW) (lv_sub hl [1, 2, 0] rfl)
  · subst hp30
    refine lv_if_eq (tgt := 13) hxe hcd dX10_describeTank_6 (by decide) (fun _ => ?_) (fun h => absurd (by decide) h)
    refine lv_iconst (v := (nI 1)) hxe hcd dX10_describeTank_13 (by decide) ?_
    refine gp_X10_53 S hW dX10_describeTank_14 (fun H locs hW => ?_)
    refine lv_aload_n hxe hcd dX10_describeTank_17 rfl (lv_at hl 0 rfl) ?_
    refine gf_X10_53 S hW dX10_describeTank_18 ?_
    refine r_as (y := (nI 1)) (by rw [up1_s, upd_s]) ?_
    refine lv_if_eq (tgt := 26) hxe hcd dX10_describeTank_21 (by decide) (fun h => absurd h (by decide)) (fun _ => ?_)
    refine lv_iconst (v := (nI 0)) hxe hcd dX10_describeTank_24 (by decide) ?_
    refine r_iret S hr hlk (F := (mE Z B)) (u := (up1 ν 0 (upd (ν 0) 0 (nI 1)))) hW ?_ dX10_describeTank_25
    exact Or.inl ⟨hp3, rfl, rfl⟩
