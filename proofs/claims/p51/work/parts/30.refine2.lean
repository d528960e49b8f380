set_option maxHeartbeats 4000000 in
set_option maxRecDepth 100000 in
theorem t_X4_send (l : Launch) {Z : ZT} (hZ : zOK Z) (A : Nat × Nat → Nat) (g : Nat → Bool) (μ : CM) (sz : Nat) {b : Nat} (hb : sB g b) {q n nf : Nat} (hq : q < 4) (hn : n ≤ 160) (hc : μ b 1 2 = nI nf) (h8 : nf ≤ 8) (ps : Nat → Nat) (hps : ∀ f, f < nf → μ b 3 f = nI (ps f) ∧ ps f ≤ 999 ∧ KP (μ b 2 f) (nI (ps f))) : XMv l yX4_send cX4_send 7 3 [.ref (A (0, 17)), .ref (A (b, 0)), .int (nI q), .int (nI n)] Z (ids g) A (cE Z A g) μ sz (fun u => ∃ M R : Nat → Int32, u = up2 (up2 μ 0 18 M) 0 19 R ∧ ∀ j, j < n → R j = flR (fun t => μ b 5 (q * 160 + t)) (μ b 2) (μ b 3) nf j) := by
  refine r_met (E := (cE Z A g μ)) (by decide +kernel) (Nat.le_of_ble_eq_true rfl) ?_
  intro p e s m below meth c ls S hr hlk hnm hsz hW hl
  have hxe := S.1
  have hcd := S.2.1
  subst hsz
  have hl : lv_has ls 7 [(0, .ref (A (0, 17))), (1, .ref (A (b, 0))), (2, .int (nI q)), (3, .int (nI n))] := hl
  refine lv_aload_n hxe hcd dX4_send_0 rfl (lv_at hl 0 rfl) ?_
  refine gf_X4_9 S hW dX4_send_1 ?_
  refine lv_iconst (v := (nI 0)) hxe hcd dX4_send_4 (by decide) ?_
  refine r_callv (F := (cE Z A g)) (r_runS hZ S hW (As := [.ref (A (0, 18)), .int (nI 0)]) (rest := []) (t_J7_fill_53178 l hZ A g μ s.heap.size (b := 0) (o := 18) (n := 64) rfl (in_r (by decide) (by decide)) (nI 0)) k_X4_25 (hl.1) rfl rfl (Nat.le_of_ble_eq_true rfl) ⟨Nat.le_of_ble_eq_true rfl, Nat.le_of_ble_eq_true rfl⟩ ⟨Nat.le_of_ble_eq_true rfl, Nat.le_of_ble_eq_true rfl⟩ dX4_send_5) hW (fun u5 H locs hp5 hW => ?_)
  have hp5 := hp5.symm
  subst hp5
  refine lv_iconst (v := (nI 0)) hxe hcd dX4_send_8 (by decide) ?_
  refine lv_istore (lv' := [(4, .int (nI 0)), (0, .ref (A (0, 17))), (1, .ref (A (b, 0))), (2, .int (nI q)), (3, .int (nI n))]) hxe hcd dX4_send_9 hl (by decide) rfl (fun ls hl => ?_)
  have loop11 : ∀ (n_ : Nat) (i : Nat) (M R : Nat → Int32), n - i < n_ → (i ≤ n) → (∀ f, f < nf → MF M f (flR (fun t => μ b 5 (q * 160 + t)) (μ b 2) (μ b 3) f) i) → (∀ j, j < i → R j = flR (fun t => μ b 5 (q * 160 + t)) (μ b 2) (μ b 3) nf j) → ∀ (H : Heap) (locs : List Loc) (ls : Array Slot), wX Z (ids g) A (cE Z A g (up2 (up2 μ 0 18 M) 0 19 R)) (fA (ids g) A (cE Z A g μ) s.heap.size) s H locs → lv_has ls 7 [(0, .ref (A (0, 17))), (1, .ref (A (b, 0))), (2, .int (nI q)), (3, .int (nI n)), (4, .int (nI i))] → W p l e (rmD 3 0 0) s m ([.ref (A (0, 17)), .ref (A (b, 0)), .int (nI q), .int (nI n)] : List Value).toArray below meth c H locs 0 0 (MQ below (va_Qv (fun u => ∃ M R : Nat → Int32, u = up2 (up2 μ 0 18 M) 0 19 R ∧ ∀ j, j < n → R j = flR (fun t => μ b 5 (q * 160 + t)) (μ b 2) (μ b 3) nf j) (fun u t => qB Z (ids g) A ((cE Z A g) u) (fA (ids g) A (cE Z A g μ) s.heap.size) t) (fA (ids g) A (cE Z A g μ) s.heap.size)) ([.ref (A (0, 17)), .ref (A (b, 0)), .int (nI q), .int (nI n)] : List Value).toArray s 0 0 (fA (ids g) A (cE Z A g μ) s.heap.size)) (F0 m 11 ls []) := by
    intro n_
    induction n_ with
    | zero => intro i M R hm; exact absurd hm (Nat.not_lt_zero _)
    | succ n_ ih11 =>
      intro i M R hm hi hM hR H locs ls hW hl
      refine lv_iload hxe hcd dX4_send_11 (lv_at hl 4 rfl) ?_
      refine lv_iload_n hxe hcd dX4_send_13 rfl (lv_at hl 3 rfl) ?_
      refine n_ge S (a := i) (b := n) (by omega) (by omega) dX4_send_14 (tgt := 83) (by decide) (fun c14 => ?_) (fun c14 => ?_)
      · refine r_vret S hr hlk (F := (cE Z A g)) (u := (up2 (up2 μ 0 18 M) 0 19 R)) hW ?_ dX4_send_83
        exact ⟨M, R, rfl, fun j hj => hR j (by omega)⟩
      · refine lv_aload_n hxe hcd dX4_send_17 rfl (lv_at hl 1 rfl) ?_
        refine gf_X4_31 S hW hb dX4_send_18 ?_
        refine lv_iload_n hxe hcd dX4_send_21 rfl (lv_at hl 2 rfl) ?_
        refine lv_iload hxe hcd dX4_send_22 (lv_at hl 4 rfl) ?_
        refine r_calli0 (r_runV hZ S hW (As := [.int (nI q), .int (nI i)]) (rest := []) (t_X5_rawAt l hZ A g (up2 (up2 μ 0 18 M) 0 19 R) H.size hb (q := q) (i := i) (by omega) (by omega)) k_X4_37 (r_recv hW (x := (b, 4)) (in_s hb (by decide)) rfl rfl) (hl.1) rfl rfl (Nat.le_of_ble_eq_true rfl) ⟨Nat.le_of_ble_eq_true rfl, Nat.le_of_ble_eq_true rfl⟩ ⟨Nat.le_of_ble_eq_true rfl, Nat.le_of_ble_eq_true rfl⟩ dX4_send_24) hW (fun r24 H locs hp24 hW => ?_)
        have hp24 := hp24.symm
        subst hp24
        refine r_as (y := (flR (fun t => μ b 5 (q * 160 + t)) (μ b 2) (μ b 3) 0 i)) (by rw [up2_o (o2 := 5) (o := 19) (by decide), up2_o (o2 := 5) (o := 18) (by decide)]; rfl) ?_
        refine lv_istore (lv' := [(5, .int (flR (fun t => μ b 5 (q * 160 + t)) (μ b 2) (μ b 3) 0 i)), (0, .ref (A (0, 17))), (1, .ref (A (b, 0))), (2, .int (nI q)), (3, .int (nI n)), (4, .int (nI i))]) hxe hcd dX4_send_27 hl (by decide) rfl (fun ls hl => ?_)
        refine lv_iconst (v := (nI 0)) hxe hcd dX4_send_29 (by decide) ?_
        refine lv_istore (lv' := [(6, .int (nI 0)), (5, .int (flR (fun t => μ b 5 (q * 160 + t)) (μ b 2) (μ b 3) 0 i)), (0, .ref (A (0, 17))), (1, .ref (A (b, 0))), (2, .int (nI q)), (3, .int (nI n)), (4, .int (nI i))]) hxe hcd dX4_send_30 hl (by decide) rfl (fun ls hl => ?_)
        have loop32 : ∀ (n_ : Nat) (f : Nat) (M2 : Nat → Int32), nf - f < n_ → (f ≤ nf) → (∀ f2, f2 < nf → f2 < f → MF M2 f2 (flR (fun t => μ b 5 (q * 160 + t)) (μ b 2) (μ b 3) f2) (i + 1)) → (∀ f2, f2 < nf → f ≤ f2 → MF M2 f2 (flR (fun t => μ b 5 (q * 160 + t)) (μ b 2) (μ b 3) f2) i) → ∀ (H : Heap) (locs : List Loc) (ls : Array Slot), wX Z (ids g) A (cE Z A g (up2 (up2 μ 0 18 M2) 0 19 R)) (fA (ids g) A (cE Z A g μ) s.heap.size) s H locs → lv_has ls 7 [(0, .ref (A (0, 17))), (1, .ref (A (b, 0))), (2, .int (nI q)), (3, .int (nI n)), (4, .int (nI i)), (5, .int (flR (fun t => μ b 5 (q * 160 + t)) (μ b 2) (μ b 3) f i)), (6, .int (nI f))] → W p l e (rmD 3 0 0) s m ([.ref (A (0, 17)), .ref (A (b, 0)), .int (nI q), .int (nI n)] : List Value).toArray below meth c H locs 0 0 (MQ below (va_Qv (fun u => ∃ M R : Nat → Int32, u = up2 (up2 μ 0 18 M) 0 19 R ∧ ∀ j, j < n → R j = flR (fun t => μ b 5 (q * 160 + t)) (μ b 2) (μ b 3) nf j) (fun u t => qB Z (ids g) A ((cE Z A g) u) (fA (ids g) A (cE Z A g μ) s.heap.size) t) (fA (ids g) A (cE Z A g μ) s.heap.size)) ([.ref (A (0, 17)), .ref (A (b, 0)), .int (nI q), .int (nI n)] : List Value).toArray s 0 0 (fA (ids g) A (cE Z A g μ) s.heap.size)) (F0 m 32 ls []) := by
          intro n_
          induction n_ with
          | zero => intro f M2 hm; exact absurd hm (Nat.not_lt_zero _)
          | succ n_ ih32 =>
            intro f M2 hm hf hA hB H locs ls hW hl
            refine lv_iload hxe hcd dX4_send_32 (lv_at hl 6 rfl) ?_
            refine lv_aload_n hxe hcd dX4_send_34 rfl (lv_at hl 1 rfl) ?_
            refine gf_X4_43 S hW hb dX4_send_35 ?_
            refine gf_X4_47 S hW hb dX4_send_38 ?_
            refine r_as (y := (nI nf)) (by rw [up2_o (o2 := 1) (o := 19) (by decide), up2_o (o2 := 1) (o := 18) (by decide), hc]) ?_
            refine n_ge S (a := f) (b := nf) (by omega) (by omega) dX4_send_41 (tgt := 66) (by decide) (fun c41 => ?_) (fun c41 => ?_)
            · refine lv_aload_n hxe hcd dX4_send_66 rfl (lv_at hl 0 rfl) ?_
              refine gf_X4_15 S hW dX4_send_67 ?_
              refine lv_iload hxe hcd dX4_send_70 (lv_at hl 4 rfl) ?_
              refine lv_iload hxe hcd dX4_send_72 (lv_at hl 5 rfl) ?_
              refine r_callv (F := (cE Z A g)) (r_runSN hZ S hW (As := [.ref (A (0, 19)), .int (nI i), .int (flR (fun t => μ b 5 (q * 160 + t)) (μ b 2) (μ b 3) f i)]) (rest := []) (t_X9_write l hZ A g (up2 (up2 μ 0 18 M2) 0 19 R) H.size (b := 0) (o := 19) (n := 160) rfl (in_r (by decide) (by decide)) (nI i) (flR (fun t => μ b 5 (q * 160 + t)) (μ b 2) (μ b 3) f i)) k_X4_57 (hl.1) rfl rfl (Nat.le_of_ble_eq_true rfl) ⟨Nat.le_of_ble_eq_true rfl, Nat.le_of_ble_eq_true rfl⟩ ⟨Nat.le_of_ble_eq_true rfl, Nat.le_of_ble_eq_true rfl⟩ dX4_send_74) hW (fun u74 H locs hp74 hW => ?_)
              have hp74 := hp74.symm
              subst hp74
              refine lv_iinc (v := (nI (i + 1))) (lv' := [(4, .int (nI (i + 1))), (0, .ref (A (0, 17))), (1, .ref (A (b, 0))), (2, .int (nI q)), (3, .int (nI n)), (5, .int (flR (fun t => μ b 5 (q * 160 + t)) (μ b 2) (μ b 3) f i)), (6, .int (nI f))]) hxe hcd dX4_send_77 hl (k := 4) rfl (nI_add i 1) (by decide) rfl (fun ls hl => ?_)
              refine lv_goto (tgt := 11) hxe hcd dX4_send_80 (by decide) ?_
              exact ih11 (i + 1) M2 (upd R i (flR (fun t => μ b 5 (q * 160 + t)) (μ b 2) (μ b 3) nf i)) (by omega) (by omega) (fun f2 h2 => hA f2 h2 (by omega)) (fun j hj => by rcases Nat.lt_succ_iff_lt_or_eq.mp hj with h | h; rw [upd_o (by omega)]; exact hR j h; rw [h, upd_s]) _ _ _ (by rw [up2_s, up2_2, wr_in (n := 160) (k := i) _ _ (by omega) (by decide), show f = nf by omega] at hW; exact hW) (lv_sub hl [1, 2, 3, 4, 0] rfl)
            · refine lv_aload_n hxe hcd dX4_send_44 rfl (lv_at hl 0 rfl) ?_
              refine lv_aload_n hxe hcd dX4_send_45 rfl (lv_at hl 1 rfl) ?_
              refine gf_X4_43 S hW hb dX4_send_46 ?_
              refine lv_iload hxe hcd dX4_send_49 (lv_at hl 6 rfl) ?_
              refine lv_iload hxe hcd dX4_send_51 (lv_at hl 4 rfl) ?_
              refine lv_iload hxe hcd dX4_send_53 (lv_at hl 5 rfl) ?_
              refine r_calli (F := (cE Z A g)) (r_runV hZ S hW (As := [.ref (A (b, 1)), .int (nI f), .int (nI i), .int (flR (fun t => μ b 5 (q * 160 + t)) (μ b 2) (μ b 3) f i)]) (rest := []) (t_X4_pass l hZ A g (up2 (up2 μ 0 18 M2) 0 19 R) H.size hb (f := f) (i := i) (P := ps f) (μ b 2 f) (flR (fun t => μ b 5 (q * 160 + t)) (μ b 2) (μ b 3) f i) (by rw [up2_o (o2 := 2) (o := 19) (by decide), up2_o (o2 := 2) (o := 18) (by decide)]) (by rw [up2_o (o2 := 3) (o := 19) (by decide), up2_o (o2 := 3) (o := 18) (by decide), (hps f (by omega)).1]) (hps f (by omega)).2.1 (hps f (by omega)).2.2 (by omega) (by omega) (flR (fun t => μ b 5 (q * 160 + t)) (μ b 2) (μ b 3) f) rfl (by rw [up2_o (o2 := 18) (o := 19) (by decide), up2_s]; exact hB f (by omega) (Nat.le_refl _))) k_X4_53 (r_recv hW (x := (0, 17)) (in_r (by decide) (by decide)) rfl rfl) (hl.1) rfl rfl (Nat.le_of_ble_eq_true rfl) ⟨Nat.le_of_ble_eq_true rfl, Nat.le_of_ble_eq_true rfl⟩ ⟨Nat.le_of_ble_eq_true rfl, Nat.le_of_ble_eq_true rfl⟩ dX4_send_55) hW (fun r55 u55 H locs hp55 hW => ?_)
              obtain ⟨hp55, hp55m⟩ := hp55
              have hp55 := hp55.symm
              subst hp55
              have hp55m := hp55m.symm
              subst hp55m
              refine lv_istore (lv' := [(5, .int (fpass (μ b 2 f) (nI (ps f)) (flR (fun t => μ b 5 (q * 160 + t)) (μ b 2) (μ b 3) f) i)), (0, .ref (A (0, 17))), (1, .ref (A (b, 0))), (2, .int (nI q)), (3, .int (nI n)), (4, .int (nI i)), (6, .int (nI f))]) hxe hcd dX4_send_58 hl (by decide) rfl (fun ls hl => ?_)
              refine lv_iinc (v := (nI (f + 1))) (lv' := [(6, .int (nI (f + 1))), (5, .int (fpass (μ b 2 f) (nI (ps f)) (flR (fun t => μ b 5 (q * 160 + t)) (μ b 2) (μ b 3) f) i)), (0, .ref (A (0, 17))), (1, .ref (A (b, 0))), (2, .int (nI q)), (3, .int (nI n)), (4, .int (nI i))]) hxe hcd dX4_send_60 hl (k := 6) rfl (nI_add f 1) (by decide) rfl (fun ls hl => ?_)
              refine lv_goto (tgt := 32) hxe hcd dX4_send_63 (by decide) ?_
              have hl : lv_has ls 7 [(6, .int (nI (f + 1))), (5, .int (flR (fun t => μ b 5 (q * 160 + t)) (μ b 2) (μ b 3) (f + 1) i)), (0, .ref (A (0, 17))), (1, .ref (A (b, 0))), (2, .int (nI q)), (3, .int (nI n)), (4, .int (nI i))] := by
                rw [show flR (fun t => μ b 5 (q * 160 + t)) (μ b 2) (μ b 3) (f + 1) i = fpass (μ b 2 f) (nI (ps f)) (flR (fun t => μ b 5 (q * 160 + t)) (μ b 2) (μ b 3) f) i from by rw [flR, (hps f (by omega)).1]]
                exact lv_sub hl [0, 1, 2, 3, 4, 5, 6] rfl
              exact ih32 (f + 1) (upd M2 (f * 8 + i % 8) (flR (fun t => μ b 5 (q * 160 + t)) (μ b 2) (μ b 3) f i)) (by omega) (by omega) (fun f2 h2 h3 => by rcases Nat.lt_succ_iff_lt_or_eq.mp h3 with h | h; exact MF_other (by omega) (hA f2 h2 h); rw [h]; exact MF_step rfl (hB f (by omega) (Nat.le_refl _))) (fun f2 h2 h3 => MF_other (by omega) (hB f2 h2 (by omega))) _ _ _ (by rw [up2_o (o2 := 18) (o := 19) (by decide), up2_s, up2_c (o := 19) (o2 := 18) (by decide), up2_2] at hW; exact hW) (lv_sub hl [2, 3, 4, 5, 6, 1, 0] rfl)
        exact loop32 (nf + 1) 0 M (Nat.lt_succ_self _) (Nat.zero_le _) (fun f2 _ h => absurd h (Nat.not_lt_zero _)) (fun f2 h2 _ => hM f2 h2) _ _ _ hW (lv_sub hl [2, 3, 4, 5, 6, 1, 0] rfl)
  exact loop11 (n + 1) 0 (filR 64 (μ 0 18) (nI 0)) (μ 0 19) (Nat.lt_succ_self _) (Nat.zero_le _) (fun f hf => MF_0 _ (fun j hj => by rw [filR, if_pos hj]) (by omega)) (fun j h => absurd h (Nat.not_lt_zero _)) _ _ _ (by have e := up2_id (up2 μ 0 18 (filR 64 (μ 0 18) (nI 0))) 0 19; rw [up2_o (o2 := 19) (o := 18) (by decide)] at e; rw [e]; exact hW) (lv_sub hl [1, 2, 3, 4, 0] rfl)
set_option maxHeartbeats 4000000 in
set_option maxRecDepth 100000 in
theorem t_X4_givenAt (l : Launch) {Z : ZT} (hZ : zOK Z) (A : Nat × Nat → Nat) (g : Nat → Bool) (μ : CM) (sz : Nat) {P i : Nat} (k : Int32) (hP9 : P ≤ 999) (hKP : KP k (nI P)) (hi : i < 160) : XCi l yX4_givenAt cX4_givenAt 6 (some .int) 2 [.ref (A (0, 17)), .int k, .int (nI P), .int (nI i)] Z (ids g) A (cE Z A g μ) sz (fun r => r = fpass k (nI P) (μ 0 20) i) := by
  refine r_met (E := (cE Z A g μ)) (by decide +kernel) (Nat.le_of_ble_eq_true rfl) ?_
  intro p e s m below meth c ls S hr hlk hnm hsz hW hl
  have hxe := S.1
  have hcd := S.2.1
  subst hsz
  have hl : lv_has ls 6 [(0, .ref (A (0, 17))), (1, .int k), (2, .int (nI P)), (3, .int (nI i))] := hl
  refine lv_iload_n hxe hcd dX4_givenAt_0 rfl (lv_at hl 1 rfl) ?_
  refine lv_bipush (v := (nI 100)) hxe hcd dX4_givenAt_1 (by decide) ?_
  refine lv_icmp_ne (tgt := 17) hxe hcd dX4_givenAt_3 (by decide) (fun c3 => ?_) (fun c3 => ?_)
  · refine lv_iload_n hxe hcd dX4_givenAt_17 rfl (lv_at hl 1 rfl) ?_
    refine lv_bipush (v := (nI 109)) hxe hcd dX4_givenAt_18 (by decide) ?_
    refine lv_icmp_ne (tgt := 70) hxe hcd dX4_givenAt_20 (by decide) (fun c20 => ?_) (fun c20 => ?_)
    · refine lv_iload_n hxe hcd dX4_givenAt_70 rfl (lv_at hl 1 rfl) ?_
      refine lv_iload_n hxe hcd dX4_givenAt_71 rfl (lv_at hl 2 rfl) ?_
      refine lv_aload_n hxe hcd dX4_givenAt_72 rfl (lv_at hl 0 rfl) ?_
      refine gf_X4_18 S hW dX4_givenAt_73 ?_
      refine lv_iload_n hxe hcd dX4_givenAt_76 rfl (lv_at hl 3 rfl) ?_
      refine r_calli0 (r_runSN hZ S hW (As := [.ref (A (0, 20)), .int (nI i)]) (rest := [.int (nI P), .int k]) (t_X9_read l hZ A g μ s.heap.size (b := 0) (o := 20) (n := 160) rfl (in_r (by decide) (by decide)) (nI i)) k_X4_21 (hl.1) rfl rfl (Nat.le_of_ble_eq_true rfl) ⟨Nat.le_of_ble_eq_true rfl, Nat.le_of_ble_eq_true rfl⟩ ⟨Nat.le_of_ble_eq_true rfl, Nat.le_of_ble_eq_true rfl⟩ dX4_givenAt_77) hW (fun r77 H locs hp77 hW => ?_)
      have hp77 := hp77.symm
      subst hp77
      refine r_as (y := (μ 0 20 i)) (rd_in (n := 160) (k := i) _ (by omega) (by decide)) ?_
      refine r_calli0 (r_runS hZ S hW (As := [.int k, .int (nI P), .int (μ 0 20 i)]) (rest := []) (t_X4_changed l hZ (ids g) A (cE Z A g μ) H.size (P := P) k (μ 0 20 i) hP9 hKP c3 c20) k_X4_71 (hl.1) rfl rfl (Nat.le_of_ble_eq_true rfl) ⟨Nat.le_of_ble_eq_true rfl, Nat.le_of_ble_eq_true rfl⟩ ⟨Nat.le_of_ble_eq_true rfl, Nat.le_of_ble_eq_true rfl⟩ dX4_givenAt_80) hW (fun r80 H locs hp80 hW => ?_)
      have hp80 := hp80.symm
      subst hp80
      refine r_iret0 S hr hlk hW ?_ dX4_givenAt_83
      rw [fpass, if_neg c3, if_neg c20]
    · have hd := KP_m hP9 (by rw [← c20]; exact hKP)
      refine lv_iconst (v := (nI 0)) hxe hcd dX4_givenAt_23 (by decide) ?_
      refine lv_istore (lv' := [(4, .int (nI 0)), (0, .ref (A (0, 17))), (1, .int k), (2, .int (nI P)), (3, .int (nI i))]) hxe hcd dX4_givenAt_24 hl (by decide) rfl (fun ls hl => ?_)
      refine lv_iconst (v := (nI 0)) hxe hcd dX4_givenAt_26 (by decide) ?_
      refine lv_istore (lv' := [(5, .int (nI 0)), (4, .int (nI 0)), (0, .ref (A (0, 17))), (1, .int k), (2, .int (nI P)), (3, .int (nI i))]) hxe hcd dX4_givenAt_27 hl (by decide) rfl (fun ls hl => ?_)
      have loop29 : ∀ (n_ : Nat) (t : Nat), P - t < n_ → (t ≤ P) → ∀ (H : Heap) (locs : List Loc) (ls : Array Slot), wX Z (ids g) A (cE Z A g μ) (fA (ids g) A (cE Z A g μ) s.heap.size) s H locs → lv_has ls 6 [(0, .ref (A (0, 17))), (1, .int k), (2, .int (nI P)), (3, .int (nI i)), (4, .int (msum (μ 0 20) i t)), (5, .int (nI t))] → W p l e (rmD 2 0 0) s m ([.ref (A (0, 17)), .int k, .int (nI P), .int (nI i)] : List Value).toArray below meth c H locs 0 0 (MQ below (va_Qi (fun r (_ : Unit) => (fun r => r = fpass k (nI P) (μ 0 20) i) r) (fun _ t => qB Z (ids g) A (cE Z A g μ) (fA (ids g) A (cE Z A g μ) s.heap.size) t) (fA (ids g) A (cE Z A g μ) s.heap.size)) ([.ref (A (0, 17)), .int k, .int (nI P), .int (nI i)] : List Value).toArray s 0 0 (fA (ids g) A (cE Z A g μ) s.heap.size)) (F0 m 29 ls []) := by
        intro n_
        induction n_ with
        | zero => intro t hm; exact absurd hm (Nat.not_lt_zero _)
        | succ n_ ih29 =>
          intro t hm ht2 H locs ls hW hl
          refine lv_iload hxe hcd dX4_givenAt_29 (lv_at hl 5 rfl) ?_
          refine lv_iload_n hxe hcd dX4_givenAt_31 rfl (lv_at hl 2 rfl) ?_
          refine n_ge S (a := t) (b := P) (by omega) (by omega) dX4_givenAt_32 (tgt := 57) (by decide) (fun c32 => ?_) (fun c32 => ?_)
          · refine lv_iload_n hxe hcd dX4_givenAt_57 rfl (lv_at hl 2 rfl) ?_
            refine lv_if_le (tgt := 68) hxe hcd dX4_givenAt_58 (by decide) (fun c58 => absurd c58 (nI_nle (by omega) (by omega))) (fun c58 => ?_)
            refine lv_iload hxe hcd dX4_givenAt_61 (lv_at hl 4 rfl) ?_
            refine lv_iload_n hxe hcd dX4_givenAt_63 rfl (lv_at hl 2 rfl) ?_
            refine lv_idiv hxe hcd dX4_givenAt_64 (nI_ne0 (by omega) (by omega)) ?_
            refine lv_goto (tgt := 69) hxe hcd dX4_givenAt_65 (by decide) ?_
            refine r_iret0 S hr hlk hW ?_ dX4_givenAt_69
            rw [fpass, if_neg c3, if_pos c20, nI_clamp (by omega), show t = P by omega]
          · refine lv_iload hxe hcd dX4_givenAt_35 (lv_at hl 4 rfl) ?_
            refine lv_aload_n hxe hcd dX4_givenAt_37 rfl (lv_at hl 0 rfl) ?_
            refine gf_X4_18 S hW dX4_givenAt_38 ?_
            refine lv_iload_n hxe hcd dX4_givenAt_41 rfl (lv_at hl 3 rfl) ?_
            refine lv_iload hxe hcd dX4_givenAt_42 (lv_at hl 5 rfl) ?_
            refine lv_isub hxe hcd dX4_givenAt_44 ?_
            refine r_calli0 (r_runSN hZ S hW (As := [.ref (A (0, 20)), .int ((nI i) - (nI t))]) (rest := [.int (msum (μ 0 20) i t)]) (t_X9_read l hZ A g μ H.size (b := 0) (o := 20) (n := 160) rfl (in_r (by decide) (by decide)) ((nI i) - (nI t))) k_X4_21 (hl.1) rfl rfl (Nat.le_of_ble_eq_true rfl) ⟨Nat.le_of_ble_eq_true rfl, Nat.le_of_ble_eq_true rfl⟩ ⟨Nat.le_of_ble_eq_true rfl, Nat.le_of_ble_eq_true rfl⟩ dX4_givenAt_45) hW (fun r45 H locs hp45 hW => ?_)
            have hp45 := hp45.symm
            subst hp45
            refine r_as (y := (if t ≤ i then μ 0 20 (i - t) else nI 0)) (rd_sub _ (by omega) (by omega) (by omega)) ?_
            refine lv_iadd hxe hcd dX4_givenAt_48 ?_
            refine lv_istore (lv' := [(4, .int ((msum (μ 0 20) i t) + (if t ≤ i then μ 0 20 (i - t) else nI 0))), (0, .ref (A (0, 17))), (1, .int k), (2, .int (nI P)), (3, .int (nI i)), (5, .int (nI t))]) hxe hcd dX4_givenAt_49 hl (by decide) rfl (fun ls hl => ?_)
            refine lv_iinc (v := (nI (t + 1))) (lv' := [(5, .int (nI (t + 1))), (4, .int ((msum (μ 0 20) i t) + (if t ≤ i then μ 0 20 (i - t) else nI 0))), (0, .ref (A (0, 17))), (1, .int k), (2, .int (nI P)), (3, .int (nI i))]) hxe hcd dX4_givenAt_51 hl (k := 5) rfl (nI_add t 1) (by decide) rfl (fun ls hl => ?_)
            refine lv_goto (tgt := 29) hxe hcd dX4_givenAt_54 (by decide) ?_
            have hl : lv_has ls 6 [(5, .int (nI (t + 1))), (4, .int (msum (μ 0 20) i (t + 1))), (0, .ref (A (0, 17))), (1, .int k), (2, .int (nI P)), (3, .int (nI i))] := by
              exact lv_sub hl [0, 1, 2, 3, 4, 5] rfl
            exact ih29 (t + 1) (by omega) (by omega) _ _ _ hW (lv_sub hl [2, 3, 4, 5, 1, 0] rfl)
      exact loop29 (P + 1) 0 (Nat.lt_succ_self _) (Nat.zero_le _) _ _ _ hW (lv_sub hl [2, 3, 4, 5, 1, 0] rfl)
  · have hd := KP_d hP9 (by rw [← c3]; exact hKP)
    refine lv_aload_n hxe hcd dX4_givenAt_6 rfl (lv_at hl 0 rfl) ?_
    refine gf_X4_18 S hW dX4_givenAt_7 ?_
    refine lv_iload_n hxe hcd dX4_givenAt_10 rfl (lv_at hl 3 rfl) ?_
    refine lv_iload_n hxe hcd dX4_givenAt_11 rfl (lv_at hl 2 rfl) ?_
    refine lv_isub hxe hcd dX4_givenAt_12 ?_
    refine r_calli0 (r_runSN hZ S hW (As := [.ref (A (0, 20)), .int ((nI i) - (nI P))]) (rest := []) (t_X9_read l hZ A g μ s.heap.size (b := 0) (o := 20) (n := 160) rfl (in_r (by decide) (by decide)) ((nI i) - (nI P))) k_X4_21 (hl.1) rfl rfl (Nat.le_of_ble_eq_true rfl) ⟨Nat.le_of_ble_eq_true rfl, Nat.le_of_ble_eq_true rfl⟩ ⟨Nat.le_of_ble_eq_true rfl, Nat.le_of_ble_eq_true rfl⟩ dX4_givenAt_13) hW (fun r13 H locs hp13 hW => ?_)
    have hp13 := hp13.symm
    subst hp13
    refine r_as (y := (if P ≤ i then μ 0 20 (i - P) else nI 0)) (rd_sub _ (by omega) (by omega) (by omega)) ?_
    refine r_iret0 S hr hlk hW ?_ dX4_givenAt_16
    rw [fpass, if_pos c3, nI_clamp (by omega)]
set_option maxHeartbeats 4000000 in
set_option maxRecDepth 100000 in
theorem t_X4_passAll (l : Launch) {Z : ZT} (hZ : zOK Z) (A : Nat × Nat → Nat) (g : Nat → Bool) (μ : CM) (sz : Nat) {P n : Nat} (k : Int32) (hP9 : P ≤ 999) (hKP : KP k (nI P)) (hn : n ≤ 160) : XMv l yX4_passAll cX4_passAll 5 3 [.ref (A (0, 17)), .int k, .int (nI P), .int (nI n)] Z (ids g) A (cE Z A g) μ sz (fun u => u = up2 μ 0 20 (paR (μ 0 20) k (nI P) 0 n)) := by
  refine r_met (E := (cE Z A g μ)) (by decide +kernel) (Nat.le_of_ble_eq_true rfl) ?_
  intro p e s m below meth c ls S hr hlk hnm hsz hW hl
  have hxe := S.1
  have hcd := S.2.1
  subst hsz
  have hl : lv_has ls 5 [(0, .ref (A (0, 17))), (1, .int k), (2, .int (nI P)), (3, .int (nI n))] := hl
  refine lv_iload_n hxe hcd dX4_passAll_0 rfl (lv_at hl 3 rfl) ?_
  refine lv_iconst (v := (nI 1)) hxe hcd dX4_passAll_1 (by decide) ?_
  refine lv_isub hxe hcd dX4_passAll_2 ?_
  refine lv_istore (lv' := [(4, .int ((nI n) - (nI 1))), (0, .ref (A (0, 17))), (1, .int k), (2, .int (nI P)), (3, .int (nI n))]) hxe hcd dX4_passAll_3 hl (by decide) rfl (fun ls hl => ?_)
  have loop5 : ∀ (n_ : Nat) (i : Nat), i < n_ → (i ≤ n) → ∀ (H : Heap) (locs : List Loc) (ls : Array Slot), wX Z (ids g) A (cE Z A g (up2 μ 0 20 (paR (μ 0 20) k (nI P) i n))) (fA (ids g) A (cE Z A g μ) s.heap.size) s H locs → lv_has ls 5 [(0, .ref (A (0, 17))), (1, .int k), (2, .int (nI P)), (3, .int (nI n)), (4, .int (nI i - nI 1))] → W p l e (rmD 3 0 0) s m ([.ref (A (0, 17)), .int k, .int (nI P), .int (nI n)] : List Value).toArray below meth c H locs 0 0 (MQ below (va_Qv (fun u => u = up2 μ 0 20 (paR (μ 0 20) k (nI P) 0 n)) (fun u t => qB Z (ids g) A ((cE Z A g) u) (fA (ids g) A (cE Z A g μ) s.heap.size) t) (fA (ids g) A (cE Z A g μ) s.heap.size)) ([.ref (A (0, 17)), .int k, .int (nI P), .int (nI n)] : List Value).toArray s 0 0 (fA (ids g) A (cE Z A g μ) s.heap.size)) (F0 m 5 ls []) := by
    intro n_
    induction n_ with
    | zero => intro i hm; exact absurd hm (Nat.not_lt_zero _)
    | succ n_ ih5 =>
      intro i hm hi H locs ls hW hl
      rcases i with _ | j
      · rw [show nI 0 - nI 1 = (-1 : Int32) by decide] at hl
        refine lv_iload hxe hcd dX4_passAll_5 (lv_at hl 4 rfl) ?_
        refine lv_if_lt (tgt := 33) hxe hcd dX4_passAll_7 (by decide) (fun _ => ?_) (fun h => absurd (by decide) h)
        refine r_vret S hr hlk (F := (cE Z A g)) (u := (up2 μ 0 20 (paR (μ 0 20) k (nI P) 0 n))) hW ?_ dX4_passAll_33
        rfl
      · rw [pk_sub (show 1 ≤ j + 1 by omega), Nat.add_sub_cancel] at hl
        refine lv_iload hxe hcd dX4_passAll_5 (lv_at hl 4 rfl) ?_
        refine lv_if_lt (tgt := 33) hxe hcd dX4_passAll_7 (by decide) (fun c7 => absurd c7 (nI_pos (by omega))) (fun c7 => ?_)
        refine lv_aload_n hxe hcd dX4_passAll_10 rfl (lv_at hl 0 rfl) ?_
        refine gf_X4_18 S hW dX4_passAll_11 ?_
        refine lv_iload hxe hcd dX4_passAll_14 (lv_at hl 4 rfl) ?_
        refine lv_aload_n hxe hcd dX4_passAll_16 rfl (lv_at hl 0 rfl) ?_
        refine lv_iload_n hxe hcd dX4_passAll_17 rfl (lv_at hl 1 rfl) ?_
        refine lv_iload_n hxe hcd dX4_passAll_18 rfl (lv_at hl 2 rfl) ?_
        refine lv_iload hxe hcd dX4_passAll_19 (lv_at hl 4 rfl) ?_
        refine r_calli0 (r_runV hZ S hW (As := [.int k, .int (nI P), .int (nI j)]) (rest := [.int (nI j), .ref (A (0, 20))]) (t_X4_givenAt l hZ A g (up2 μ 0 20 (paR (μ 0 20) k (nI P) (j + 1) n)) H.size (P := P) (i := j) k (by omega) hKP (by omega)) k_X4_90 (r_recv hW (x := (0, 17)) (in_r (by decide) (by decide)) rfl rfl) (hl.1) rfl rfl (Nat.le_of_ble_eq_true rfl) ⟨Nat.le_of_ble_eq_true rfl, Nat.le_of_ble_eq_true rfl⟩ ⟨Nat.le_of_ble_eq_true rfl, Nat.le_of_ble_eq_true rfl⟩ dX4_passAll_21) hW (fun r21 H locs hp21 hW => ?_)
        have hp21 := hp21.symm
        subst hp21
        refine r_callv (F := (cE Z A g)) (r_runSN hZ S hW (As := [.ref (A (0, 20)), .int (nI j), .int (fpass k (nI P) ((up2 μ 0 20 (paR (μ 0 20) k (nI P) (j + 1) n)) 0 20) j)]) (rest := []) (t_X9_write l hZ A g (up2 μ 0 20 (paR (μ 0 20) k (nI P) (j + 1) n)) H.size (b := 0) (o := 20) (n := 160) rfl (in_r (by decide) (by decide)) (nI j) (fpass k (nI P) ((up2 μ 0 20 (paR (μ 0 20) k (nI P) (j + 1) n)) 0 20) j)) k_X4_57 (hl.1) rfl rfl (Nat.le_of_ble_eq_true rfl) ⟨Nat.le_of_ble_eq_true rfl, Nat.le_of_ble_eq_true rfl⟩ ⟨Nat.le_of_ble_eq_true rfl, Nat.le_of_ble_eq_true rfl⟩ dX4_passAll_24) hW (fun u24 H locs hp24 hW => ?_)
        have hp24 := hp24.symm
        subst hp24
        refine lv_iinc (v := ((nI j) - (nI 1))) (lv' := [(4, .int ((nI j) - (nI 1))), (0, .ref (A (0, 17))), (1, .int k), (2, .int (nI P)), (3, .int (nI n))]) hxe hcd dX4_passAll_27 hl (k := 4) rfl (inc_m1 _) (by decide) rfl (fun ls hl => ?_)
        refine lv_goto (tgt := 5) hxe hcd dX4_passAll_30 (by decide) ?_
        exact ih5 j (by omega) (by omega) _ _ _ (by rw [up2_s, up2_2, wr_in (n := 160) (k := j) _ _ (by omega) (by decide), paR_step _ _ _ (by omega)] at hW; exact hW) (lv_sub hl [1, 2, 3, 4, 0] rfl)
  exact loop5 (n + 1) n (Nat.lt_succ_self _) (Nat.le_refl _) _ _ _ (by rw [paR_n, up2_id]; exact hW) (lv_sub hl [1, 2, 3, 4, 0] rfl)
set_option maxHeartbeats 4000000 in
set_option maxRecDepth 100000 in
theorem t_X4_sendByFilter (l : Launch) {Z : ZT} (hZ : zOK Z) (A : Nat × Nat → Nat) (g : Nat → Bool) (μ : CM) (sz : Nat) {b : Nat} (hb : sB g b) {q n nf : Nat} (hq : q < 4) (hl7 : μ b 7 q = nI n) (hn : n ≤ 160) (hc : μ b 1 2 = nI nf) (h8 : nf ≤ 8) (ps : Nat → Nat) (hps : ∀ f, f < nf → μ b 3 f = nI (ps f) ∧ ps f ≤ 999 ∧ KP (μ b 2 f) (nI (ps f))) : XMv l yX4_sendByFilter cX4_sendByFilter 5 4 [.ref (A (0, 17)), .ref (A (b, 0)), .int (nI q)] Z (ids g) A (cE Z A g) μ sz (fun u => ∃ R : Nat → Int32, u = up2 μ 0 20 R ∧ ∀ j, j < n → R j = flR (fun t => μ b 5 (q * 160 + t)) (μ b 2) (μ b 3) nf j) := by
  refine r_met (E := (cE Z A g μ)) (by decide +kernel) (Nat.le_of_ble_eq_true rfl) ?_
  intro p e s m below meth c ls S hr hlk hnm hsz hW hl
  have hxe := S.1
  have hcd := S.2.1
  subst hsz
  have hl : lv_has ls 5 [(0, .ref (A (0, 17))), (1, .ref (A (b, 0))), (2, .int (nI q))] := hl
  refine lv_aload_n hxe hcd dX4_sendByFilter_0 rfl (lv_at hl 1 rfl) ?_
  refine gf_X4_31 S hW hb dX4_sendByFilter_1 ?_
  refine lv_iload_n hxe hcd dX4_sendByFilter_4 rfl (lv_at hl 2 rfl) ?_
  refine r_calli0 (r_runV hZ S hW (As := [.int (nI q)]) (rest := []) (t_X5_samplesOf l hZ A g μ s.heap.size hb (nI q)) k_X4_83 (r_recv hW (x := (b, 4)) (in_s hb (by decide)) rfl rfl) (hl.1) rfl rfl (Nat.le_of_ble_eq_true rfl) ⟨Nat.le_of_ble_eq_true rfl, Nat.le_of_ble_eq_true rfl⟩ ⟨Nat.le_of_ble_eq_true rfl, Nat.le_of_ble_eq_true rfl⟩ dX4_sendByFilter_5) hW (fun r5 H locs hp5 hW => ?_)
  have hp5 := hp5.symm
  subst hp5
  refine r_as (y := (μ b 7 q)) (rd_in (n := 4) (k := q) _ (by omega) (by decide)) ?_
  refine r_as (y := (nI n)) (hl7) ?_
  refine lv_istore_n (lv' := [(3, .int (nI n)), (0, .ref (A (0, 17))), (1, .ref (A (b, 0))), (2, .int (nI q))]) hxe hcd dX4_sendByFilter_8 rfl hl (by decide) rfl (fun ls hl => ?_)
  refine lv_iconst (v := (nI 0)) hxe hcd dX4_sendByFilter_9 (by decide) ?_
  refine lv_istore (lv' := [(4, .int (nI 0)), (3, .int (nI n)), (0, .ref (A (0, 17))), (1, .ref (A (b, 0))), (2, .int (nI q))]) hxe hcd dX4_sendByFilter_10 hl (by decide) rfl (fun ls hl => ?_)
  have loop12 : ∀ (n_ : Nat) (i : Nat), n - i < n_ → (i ≤ n) → ∀ (H : Heap) (locs : List Loc) (ls : Array Slot), wX Z (ids g) A (cE Z A g (up2 μ 0 20 (cpR i (fun t => μ b 5 (q * 160 + t)) (μ 0 20)))) (fA (ids g) A (cE Z A g μ) s.heap.size) s H locs → lv_has ls 5 [(0, .ref (A (0, 17))), (1, .ref (A (b, 0))), (2, .int (nI q)), (3, .int (nI n)), (4, .int (nI i))] → W p l e (rmD 4 0 0) s m ([.ref (A (0, 17)), .ref (A (b, 0)), .int (nI q)] : List Value).toArray below meth c H locs 0 0 (MQ below (va_Qv (fun u => ∃ R : Nat → Int32, u = up2 μ 0 20 R ∧ ∀ j, j < n → R j = flR (fun t => μ b 5 (q * 160 + t)) (μ b 2) (μ b 3) nf j) (fun u t => qB Z (ids g) A ((cE Z A g) u) (fA (ids g) A (cE Z A g μ) s.heap.size) t) (fA (ids g) A (cE Z A g μ) s.heap.size)) ([.ref (A (0, 17)), .ref (A (b, 0)), .int (nI q)] : List Value).toArray s 0 0 (fA (ids g) A (cE Z A g μ) s.heap.size)) (F0 m 12 ls []) := by
    intro n_
    induction n_ with
    | zero => intro i hm; exact absurd hm (Nat.not_lt_zero _)
    | succ n_ ih12 =>
      intro i hm hi H locs ls hW hl
      refine lv_iload hxe hcd dX4_sendByFilter_12 (lv_at hl 4 rfl) ?_
      refine lv_iload_n hxe hcd dX4_sendByFilter_14 rfl (lv_at hl 3 rfl) ?_
      refine n_ge S (a := i) (b := n) (by omega) (by omega) dX4_sendByFilter_15 (tgt := 43) (by decide) (fun c15 => ?_) (fun c15 => ?_)
      · refine lv_iconst (v := (nI 0)) hxe hcd dX4_sendByFilter_43 (by decide) ?_
        refine lv_istore (lv' := [(4, .int (nI 0)), (0, .ref (A (0, 17))), (1, .ref (A (b, 0))), (2, .int (nI q)), (3, .int (nI n))]) hxe hcd dX4_sendByFilter_44 hl (by decide) rfl (fun ls hl => ?_)
        have loop46 : ∀ (n_ : Nat) (f : Nat) (R : Nat → Int32), nf - f < n_ → (f ≤ nf) → (∀ j, j < n → R j = flR (fun t => μ b 5 (q * 160 + t)) (μ b 2) (μ b 3) f j) → ∀ (H : Heap) (locs : List Loc) (ls : Array Slot), wX Z (ids g) A (cE Z A g (up2 μ 0 20 R)) (fA (ids g) A (cE Z A g μ) s.heap.size) s H locs → lv_has ls 5 [(0, .ref (A (0, 17))), (1, .ref (A (b, 0))), (2, .int (nI q)), (3, .int (nI n)), (4, .int (nI f))] → W p l e (rmD 4 0 0) s m ([.ref (A (0, 17)), .ref (A (b, 0)), .int (nI q)] : List Value).toArray below meth c H locs 0 0 (MQ below (va_Qv (fun u => ∃ R : Nat → Int32, u = up2 μ 0 20 R ∧ ∀ j, j < n → R j = flR (fun t => μ b 5 (q * 160 + t)) (μ b 2) (μ b 3) nf j) (fun u t => qB Z (ids g) A ((cE Z A g) u) (fA (ids g) A (cE Z A g μ) s.heap.size) t) (fA (ids g) A (cE Z A g μ) s.heap.size)) ([.ref (A (0, 17)), .ref (A (b, 0)), .int (nI q)] : List Value).toArray s 0 0 (fA (ids g) A (cE Z A g μ) s.heap.size)) (F0 m 46 ls []) := by
          intro n_
          induction n_ with
          | zero => intro f R hm; exact absurd hm (Nat.not_lt_zero _)
          | succ n_ ih46 =>
            intro f R hm hf hR H locs ls hW hl
            refine lv_iload hxe hcd dX4_sendByFilter_46 (lv_at hl 4 rfl) ?_
            refine lv_aload_n hxe hcd dX4_sendByFilter_48 rfl (lv_at hl 1 rfl) ?_
            refine gf_X4_43 S hW hb dX4_sendByFilter_49 ?_
            refine gf_X4_47 S hW hb dX4_sendByFilter_52 ?_
            refine r_as (y := (nI nf)) (by rw [up2_o (o2 := 1) (o := 20) (by decide), hc]) ?_
            refine n_ge S (a := f) (b := nf) (by omega) (by omega) dX4_sendByFilter_55 (tgt := 87) (by decide) (fun c55 => ?_) (fun c55 => ?_)
            · refine r_vret S hr hlk (F := (cE Z A g)) (u := (up2 μ 0 20 R)) hW ?_ dX4_sendByFilter_87
              exact ⟨R, rfl, fun j hj => by rw [hR j hj, show f = nf by omega]⟩
            · refine lv_aload_n hxe hcd dX4_sendByFilter_58 rfl (lv_at hl 0 rfl) ?_
              refine lv_aload_n hxe hcd dX4_sendByFilter_59 rfl (lv_at hl 1 rfl) ?_
              refine gf_X4_43 S hW hb dX4_sendByFilter_60 ?_
              refine lv_iload hxe hcd dX4_sendByFilter_63 (lv_at hl 4 rfl) ?_
              refine r_calli0 (r_runV hZ S hW (As := [.int (nI f)]) (rest := [.ref (A (0, 17))]) (t_X0_kindAt l hZ A g (up2 μ 0 20 R) H.size hb (nI f)) k_X4_61 (r_recv hW (x := (b, 1)) (in_s hb (by decide)) rfl rfl) (hl.1) rfl rfl (Nat.le_of_ble_eq_true rfl) ⟨Nat.le_of_ble_eq_true rfl, Nat.le_of_ble_eq_true rfl⟩ ⟨Nat.le_of_ble_eq_true rfl, Nat.le_of_ble_eq_true rfl⟩ dX4_sendByFilter_65) hW (fun r65 H locs hp65 hW => ?_)
              have hp65 := hp65.symm
              subst hp65
              refine r_as (y := (μ b 2 f)) (by rw [rd_in (n := 8) (k := f) _ (by omega) (by decide), up2_o (o2 := 2) (o := 20) (by decide)]) ?_
              refine lv_aload_n hxe hcd dX4_sendByFilter_68 rfl (lv_at hl 1 rfl) ?_
              refine gf_X4_43 S hW hb dX4_sendByFilter_69 ?_
              refine lv_iload hxe hcd dX4_sendByFilter_72 (lv_at hl 4 rfl) ?_
              refine r_calli0 (r_runV hZ S hW (As := [.int (nI f)]) (rest := [.int (μ b 2 f), .ref (A (0, 17))]) (t_X0_parameterAt l hZ A g (up2 μ 0 20 R) H.size hb (nI f)) k_X4_65 (r_recv hW (x := (b, 1)) (in_s hb (by decide)) rfl rfl) (hl.1) rfl rfl (Nat.le_of_ble_eq_true rfl) ⟨Nat.le_of_ble_eq_true rfl, Nat.le_of_ble_eq_true rfl⟩ ⟨Nat.le_of_ble_eq_true rfl, Nat.le_of_ble_eq_true rfl⟩ dX4_sendByFilter_74) hW (fun r74 H locs hp74 hW => ?_)
              have hp74 := hp74.symm
              subst hp74
              refine r_as (y := (nI (ps f))) (by rw [rd_in (n := 8) (k := f) _ (by omega) (by decide), up2_o (o2 := 3) (o := 20) (by decide), (hps f (by omega)).1]) ?_
              refine lv_iload_n hxe hcd dX4_sendByFilter_77 rfl (lv_at hl 3 rfl) ?_
              refine r_callv (F := (cE Z A g)) (r_runV hZ S hW (As := [.int (μ b 2 f), .int (nI (ps f)), .int (nI n)]) (rest := []) (t_X4_passAll l hZ A g (up2 μ 0 20 R) H.size (P := (ps f)) (n := n) (μ b 2 f) (hps f (by omega)).2.1 (hps f (by omega)).2.2 (by omega)) k_X4_86 (r_recv hW (x := (0, 17)) (in_r (by decide) (by decide)) rfl rfl) (hl.1) rfl rfl (Nat.le_of_ble_eq_true rfl) ⟨Nat.le_of_ble_eq_true rfl, Nat.le_of_ble_eq_true rfl⟩ ⟨Nat.le_of_ble_eq_true rfl, Nat.le_of_ble_eq_true rfl⟩ dX4_sendByFilter_78) hW (fun u78 H locs hp78 hW => ?_)
              have hp78 := hp78.symm
              subst hp78
              refine lv_iinc (v := (nI (f + 1))) (lv' := [(4, .int (nI (f + 1))), (0, .ref (A (0, 17))), (1, .ref (A (b, 0))), (2, .int (nI q)), (3, .int (nI n))]) hxe hcd dX4_sendByFilter_81 hl (k := 4) rfl (nI_add f 1) (by decide) rfl (fun ls hl => ?_)
              refine lv_goto (tgt := 46) hxe hcd dX4_sendByFilter_84 (by decide) ?_
              exact ih46 (f + 1) (paR R (μ b 2 f) (nI (ps f)) 0 n) (by omega) (by omega) (fun j hj => by rw [paR, if_pos ⟨Nat.zero_le _, hj⟩, flR, (hps f (by omega)).1]; exact fpass_congr (fun j2 h2 => hR j2 (by omega))) _ _ _ (by rw [up2_s, up2_2] at hW; exact hW) (lv_sub hl [1, 2, 3, 4, 0] rfl)
        exact loop46 (nf + 1) 0 (cpR i (fun t => μ b 5 (q * 160 + t)) (μ 0 20)) (Nat.lt_succ_self _) (Nat.zero_le _) (fun j hj => by rw [cpR, if_pos (by omega)]; rfl) _ _ _ hW (lv_sub hl [1, 2, 3, 4, 0] rfl)
      · refine lv_aload_n hxe hcd dX4_sendByFilter_18 rfl (lv_at hl 0 rfl) ?_
        refine gf_X4_18 S hW dX4_sendByFilter_19 ?_
        refine lv_iload hxe hcd dX4_sendByFilter_22 (lv_at hl 4 rfl) ?_
        refine lv_aload_n hxe hcd dX4_sendByFilter_24 rfl (lv_at hl 1 rfl) ?_
        refine gf_X4_31 S hW hb dX4_sendByFilter_25 ?_
        refine lv_iload_n hxe hcd dX4_sendByFilter_28 rfl (lv_at hl 2 rfl) ?_
        refine lv_iload hxe hcd dX4_sendByFilter_29 (lv_at hl 4 rfl) ?_
        refine r_calli0 (r_runV hZ S hW (As := [.int (nI q), .int (nI i)]) (rest := [.int (nI i), .ref (A (0, 20))]) (t_X5_rawAt l hZ A g (up2 μ 0 20 (cpR i (fun t => μ b 5 (q * 160 + t)) (μ 0 20))) H.size hb (q := q) (i := i) (by omega) (by omega)) k_X4_37 (r_recv hW (x := (b, 4)) (in_s hb (by decide)) rfl rfl) (hl.1) rfl rfl (Nat.le_of_ble_eq_true rfl) ⟨Nat.le_of_ble_eq_true rfl, Nat.le_of_ble_eq_true rfl⟩ ⟨Nat.le_of_ble_eq_true rfl, Nat.le_of_ble_eq_true rfl⟩ dX4_sendByFilter_31) hW (fun r31 H locs hp31 hW => ?_)
        have hp31 := hp31.symm
        subst hp31
        refine r_as (y := (μ b 5 (q * 160 + i))) (by rw [up2_o (o2 := 5) (o := 20) (by decide)]) ?_
        refine r_callv (F := (cE Z A g)) (r_runSN hZ S hW (As := [.ref (A (0, 20)), .int (nI i), .int (μ b 5 (q * 160 + i))]) (rest := []) (t_X9_write l hZ A g (up2 μ 0 20 (cpR i (fun t => μ b 5 (q * 160 + t)) (μ 0 20))) H.size (b := 0) (o := 20) (n := 160) rfl (in_r (by decide) (by decide)) (nI i) (μ b 5 (q * 160 + i))) k_X4_57 (hl.1) rfl rfl (Nat.le_of_ble_eq_true rfl) ⟨Nat.le_of_ble_eq_true rfl, Nat.le_of_ble_eq_true rfl⟩ ⟨Nat.le_of_ble_eq_true rfl, Nat.le_of_ble_eq_true rfl⟩ dX4_sendByFilter_34) hW (fun u34 H locs hp34 hW => ?_)
        have hp34 := hp34.symm
        subst hp34
        refine lv_iinc (v := (nI (i + 1))) (lv' := [(4, .int (nI (i + 1))), (0, .ref (A (0, 17))), (1, .ref (A (b, 0))), (2, .int (nI q)), (3, .int (nI n))]) hxe hcd dX4_sendByFilter_37 hl (k := 4) rfl (nI_add i 1) (by decide) rfl (fun ls hl => ?_)
        refine lv_goto (tgt := 12) hxe hcd dX4_sendByFilter_40 (by decide) ?_
        exact ih12 (i + 1) (by omega) (by omega) _ _ _ (by rw [up2_s, up2_2, wr_in (n := 160) (k := i) _ _ (by omega) (by decide), cpR_step (fun t => μ b 5 (q * 160 + t))] at hW; exact hW) (lv_sub hl [1, 2, 3, 4, 0] rfl)
  exact loop12 (n + 1) 0 (Nat.lt_succ_self _) (Nat.zero_le _) _ _ _ (by rw [cpR_0, up2_id]; exact hW) (lv_sub hl [2, 3, 4, 1, 0] rfl)
set_option maxHeartbeats 4000000 in
set_option maxRecDepth 100000 in
theorem t_X4_loudnessOf (l : Launch) {Z : ZT} (hZ : zOK Z) (A : Nat × Nat → Nat) (g : Nat → Bool) (μ : CM) (sz : Nat) {fr n : Nat} (hfr : fr * 8 ≤ n) (hn : n ≤ 160) : XCi l yX4_loudnessOf cX4_loudnessOf 7 (some .int) 1 [.ref (A (0, 17)), .int (nI fr), .int (nI n)] Z (ids g) A (cE Z A g μ) sz (fun r => r = maxR (fun k => iabs (μ 0 19 (fr * 8 + k))) (min (fr * 8 + 8) n - fr * 8)) := by
  refine r_met (E := (cE Z A g μ)) (by decide +kernel) (Nat.le_of_ble_eq_true rfl) ?_
  intro p e s m below meth c ls S hr hlk hnm hsz hW hl
  have hxe := S.1
  have hcd := S.2.1
  subst hsz
  have hl : lv_has ls 7 [(0, .ref (A (0, 17))), (1, .int (nI fr)), (2, .int (nI n))] := hl
  refine lv_iload_n hxe hcd dX4_loudnessOf_0 rfl (lv_at hl 1 rfl) ?_
  refine lv_bipush (v := (nI 8)) hxe hcd dX4_loudnessOf_1 (by decide) ?_
  refine n_imul S (a := fr) (b := 8) dX4_loudnessOf_3 ?_
  refine lv_istore_n (lv' := [(3, .int (nI (fr * 8))), (0, .ref (A (0, 17))), (1, .int (nI fr)), (2, .int (nI n))]) hxe hcd dX4_loudnessOf_4 rfl hl (by decide) rfl (fun ls hl => ?_)
  refine lv_iload_n hxe hcd dX4_loudnessOf_5 rfl (lv_at hl 0 rfl) ?_
  refine lv_bipush (v := (nI 8)) hxe hcd dX4_loudnessOf_6 (by decide) ?_
  refine n_iadd S (a := (fr * 8)) (b := 8) dX4_loudnessOf_8 ?_
  refine lv_iload_n hxe hcd dX4_loudnessOf_9 rfl (lv_at hl 3 rfl) ?_
  refine r_min S hl.1 g_329 g_330 (Nat.le_of_ble_eq_true rfl) (Nat.le_of_ble_eq_true rfl) (Nat.le_of_ble_eq_true rfl) (Nat.le_of_ble_eq_true rfl) dX4_loudnessOf_10 ?_
  refine r_as (y := (nI (min (fr * 8 + 8) n))) (imin_N (by omega) (by omega)) ?_
  refine lv_istore (lv' := [(4, .int (nI (min (fr * 8 + 8) n))), (3, .int (nI (fr * 8))), (0, .ref (A (0, 17))), (1, .int (nI fr)), (2, .int (nI n))]) hxe hcd dX4_loudnessOf_13 hl (by decide) rfl (fun ls hl => ?_)
  refine lv_iconst (v := (nI 0)) hxe hcd dX4_loudnessOf_15 (by decide) ?_
  refine lv_istore (lv' := [(5, .int (nI 0)), (4, .int (nI (min (fr * 8 + 8) n))), (3, .int (nI (fr * 8))), (0, .ref (A (0, 17))), (1, .int (nI fr)), (2, .int (nI n))]) hxe hcd dX4_loudnessOf_16 hl (by decide) rfl (fun ls hl => ?_)
  refine lv_iload_n hxe hcd dX4_loudnessOf_18 rfl (lv_at hl 2 rfl) ?_
  refine lv_istore (lv' := [(6, .int (nI (fr * 8))), (5, .int (nI 0)), (4, .int (nI (min (fr * 8 + 8) n))), (3, .int (nI (fr * 8))), (0, .ref (A (0, 17))), (1, .int (nI fr)), (2, .int (nI n))]) hxe hcd dX4_loudnessOf_19 hl (by decide) rfl (fun ls hl => ?_)
  have hl : lv_has ls 7 [(6, .int (nI (fr * 8))), (5, .int (maxR (fun k => iabs (μ 0 19 (fr * 8 + k))) (fr * 8 - fr * 8))), (4, .int (nI (min (fr * 8 + 8) n))), (3, .int (nI (fr * 8))), (0, .ref (A (0, 17))), (1, .int (nI fr)), (2, .int (nI n))] := by
    rw [Nat.sub_self]; exact hl
  have loop21 : ∀ (n_ : Nat) (i : Nat), min (fr * 8 + 8) n - i < n_ → (fr * 8 ≤ i) → (i ≤ min (fr * 8 + 8) n) → ∀ (H : Heap) (locs : List Loc) (ls : Array Slot), wX Z (ids g) A (cE Z A g μ) (fA (ids g) A (cE Z A g μ) s.heap.size) s H locs → lv_has ls 7 [(0, .ref (A (0, 17))), (1, .int (nI fr)), (2, .int (nI n)), (3, .int (nI (fr * 8))), (4, .int (nI (min (fr * 8 + 8) n))), (5, .int (maxR (fun k => iabs (μ 0 19 (fr * 8 + k))) (i - fr * 8))), (6, .int (nI i))] → W p l e (rmD 1 0 0) s m ([.ref (A (0, 17)), .int (nI fr), .int (nI n)] : List Value).toArray below meth c H locs 0 0 (MQ below (va_Qi (fun r (_ : Unit) => (fun r => r = maxR (fun k => iabs (μ 0 19 (fr * 8 + k))) (min (fr * 8 + 8) n - fr * 8)) r) (fun _ t => qB Z (ids g) A (cE Z A g μ) (fA (ids g) A (cE Z A g μ) s.heap.size) t) (fA (ids g) A (cE Z A g μ) s.heap.size)) ([.ref (A (0, 17)), .int (nI fr), .int (nI n)] : List Value).toArray s 0 0 (fA (ids g) A (cE Z A g μ) s.heap.size)) (F0 m 21 ls []) := by
    intro n_
    induction n_ with
    | zero => intro i hm; exact absurd hm (Nat.not_lt_zero _)
    | succ n_ ih21 =>
      intro i hm hi hi2 H locs ls hW hl
      refine lv_iload hxe hcd dX4_loudnessOf_21 (lv_at hl 6 rfl) ?_
      refine lv_iload hxe hcd dX4_loudnessOf_23 (lv_at hl 4 rfl) ?_
      refine n_ge S (a := i) (b := (min (fr * 8 + 8) n)) (by omega) (by omega) dX4_loudnessOf_25 (tgt := 53) (by decide) (fun c25 => ?_) (fun c25 => ?_)
      · refine lv_iload hxe hcd dX4_loudnessOf_53 (lv_at hl 5 rfl) ?_
        refine r_iret0 S hr hlk hW ?_ dX4_loudnessOf_55
        rw [show i = min (fr * 8 + 8) n by omega]
      · refine lv_iload hxe hcd dX4_loudnessOf_28 (lv_at hl 5 rfl) ?_
        refine lv_aload_n hxe hcd dX4_loudnessOf_30 rfl (lv_at hl 0 rfl) ?_
        refine gf_X4_15 S hW dX4_loudnessOf_31 ?_
        refine lv_iload hxe hcd dX4_loudnessOf_34 (lv_at hl 6 rfl) ?_
        refine r_calli0 (r_runSN hZ S hW (As := [.ref (A (0, 19)), .int (nI i)]) (rest := [.int (maxR (fun k => iabs (μ 0 19 (fr * 8 + k))) (i - fr * 8))]) (t_X9_read l hZ A g μ H.size (b := 0) (o := 19) (n := 160) rfl (in_r (by decide) (by decide)) (nI i)) k_X4_21 (hl.1) rfl rfl (Nat.le_of_ble_eq_true rfl) ⟨Nat.le_of_ble_eq_true rfl, Nat.le_of_ble_eq_true rfl⟩ ⟨Nat.le_of_ble_eq_true rfl, Nat.le_of_ble_eq_true rfl⟩ dX4_loudnessOf_36) hW (fun r36 H locs hp36 hW => ?_)
        have hp36 := hp36.symm
        subst hp36
        refine r_as (y := (μ 0 19 i)) (rd_in (n := 160) (k := i) _ (by omega) (by decide)) ?_
        refine r_abs S hl.1 g_415 g_416 (Nat.le_of_ble_eq_true rfl) (Nat.le_of_ble_eq_true rfl) (Nat.le_of_ble_eq_true rfl) (Nat.le_of_ble_eq_true rfl) dX4_loudnessOf_39 ?_
        refine r_max S hl.1 g_332 g_333 (Nat.le_of_ble_eq_true rfl) (Nat.le_of_ble_eq_true rfl) (Nat.le_of_ble_eq_true rfl) (Nat.le_of_ble_eq_true rfl) dX4_loudnessOf_42 ?_
        refine lv_istore (lv' := [(5, .int (imax (maxR (fun k => iabs (μ 0 19 (fr * 8 + k))) (i - fr * 8)) (iabs (μ 0 19 i)))), (0, .ref (A (0, 17))), (1, .int (nI fr)), (2, .int (nI n)), (3, .int (nI (fr * 8))), (4, .int (nI (min (fr * 8 + 8) n))), (6, .int (nI i))]) hxe hcd dX4_loudnessOf_45 hl (by decide) rfl (fun ls hl => ?_)
        refine lv_iinc (v := (nI (i + 1))) (lv' := [(6, .int (nI (i + 1))), (5, .int (imax (maxR (fun k => iabs (μ 0 19 (fr * 8 + k))) (i - fr * 8)) (iabs (μ 0 19 i)))), (0, .ref (A (0, 17))), (1, .int (nI fr)), (2, .int (nI n)), (3, .int (nI (fr * 8))), (4, .int (nI (min (fr * 8 + 8) n)))]) hxe hcd dX4_loudnessOf_47 hl (k := 6) rfl (nI_add i 1) (by decide) rfl (fun ls hl => ?_)
        refine lv_goto (tgt := 21) hxe hcd dX4_loudnessOf_50 (by decide) ?_
        have hl : lv_has ls 7 [(6, .int (nI (i + 1))), (5, .int (maxR (fun k => iabs (μ 0 19 (fr * 8 + k))) (i + 1 - fr * 8))), (0, .ref (A (0, 17))), (1, .int (nI fr)), (2, .int (nI n)), (3, .int (nI (fr * 8))), (4, .int (nI (min (fr * 8 + 8) n)))] := by
          rw [show i + 1 - fr * 8 = (i - fr * 8) + 1 by omega, maxR, show fr * 8 + (i - fr * 8) = i by omega]
          exact lv_sub hl [0, 1, 2, 3, 4, 5, 6] rfl
        exact ih21 (i + 1) (by omega) (by omega) (by omega) _ _ _ hW (lv_sub hl [2, 3, 4, 5, 6, 1, 0] rfl)
  exact loop21 ((min (fr * 8 + 8) n - fr * 8) + 1) (fr * 8) (Nat.lt_succ_self _) (Nat.le_refl _) (by omega) _ _ _ hW (lv_sub hl [4, 5, 6, 3, 2, 1, 0] rfl)
