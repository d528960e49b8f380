set_option maxHeartbeats 4000000 in
set_option maxRecDepth 100000 in
theorem t_X10_sign (l : Launch) {Z : ZT} (hZ : zOK Z) (B : Nat → Nat) (ν : MM) (sz : Nat) {n pp : Nat} (hpp : ν 0 18 = nI pp) (hen : ν 0 19 = nI n) (hn60 : n ≤ 60) (t : Nat → Nat) (htx : ∀ j, j < n → ν 8 j = nI (t j) ∧ t j < 128) (hpn : pp ≤ 60) : XCi l yX10_sign cX10_sign 1 (some .int) 0 [.ref (B 0)] Z mds B (mE Z B ν) sz (fun r => r = chT t n pp) := by
  refine r_met (E := (mE Z B ν)) (by decide +kernel) (Nat.le_of_ble_eq_true rfl) ?_
  intro p e s m below meth c ls S hr hlk hnm hsz hW hl
  have hxe := S.1
  have hcd := S.2.1
  subst hsz
  have hl : lv_has ls 1 [(0, .ref (B 0))] := hl
  refine lv_aload_n hxe hcd dX10_sign_0 rfl (lv_at hl 0 rfl) ?_
  refine gf_X10_180 S hW dX10_sign_1 ?_
  refine r_as (y := (nI pp)) (hpp) ?_
  refine lv_aload_n hxe hcd dX10_sign_4 rfl (lv_at hl 0 rfl) ?_
  refine gf_X10_183 S hW dX10_sign_5 ?_
  refine r_as (y := (nI n)) (hen) ?_
  refine n_ge S (a := pp) (b := n) (by omega) (by omega) dX10_sign_8 (tgt := 23) (by decide) (fun c8 => ?_) (fun c8 => ?_)
  · refine lv_iconst (v := (-1)) hxe hcd dX10_sign_23 (by decide) ?_
    refine r_iret0 S hr hlk hW ?_ dX10_sign_24
    rw [chT, if_neg (by omega)]
  · refine lv_aload_n hxe hcd dX10_sign_11 rfl (lv_at hl 0 rfl) ?_
    refine gf_X10_38 S hW dX10_sign_12 ?_
    refine lv_aload_n hxe hcd dX10_sign_15 rfl (lv_at hl 0 rfl) ?_
    refine gf_X10_180 S hW dX10_sign_16 ?_
    refine r_as (y := (nI pp)) (hpp) ?_
    refine gm_ald S hW (i := 8) (k := pp) (n := 60) (by decide) (by decide) rfl (by omega) dX10_sign_19 ?_
    refine r_as (y := (nI (t pp))) ((htx pp (by omega)).1) ?_
    refine lv_goto (tgt := 24) hxe hcd dX10_sign_20 (by decide) ?_
    refine r_iret0 S hr hlk hW ?_ dX10_sign_24
    rw [chT, if_pos (by omega)]
set_option maxHeartbeats 4000000 in
set_option maxRecDepth 100000 in
theorem t_X10_mark (l : Launch) {Z : ZT} (hZ : zOK Z) (B : Nat → Nat) (ν : MM) (sz : Nat) {n pp : Nat} (hpp : ν 0 18 = nI pp) (hen : ν 0 19 = nI n) (hn60 : n ≤ 60) (t : Nat → Nat) (htx : ∀ j, j < n → ν 8 j = nI (t j) ∧ t j < 128) (hpn : pp ≤ 60) (hx0 : ν 0 21 = nI 0) (x : Int32) : XMv l yX10_mark cX10_mark 2 1 [.ref (B 0), .int x] Z mds B (mE Z B) ν sz (fun u => (chT t n pp = x ∧ u = PM ν (pp + 1) 0) ∨ (¬ chT t n pp = x ∧ u = PM ν pp 1)) := by
  refine r_met (E := (mE Z B ν)) (by decide +kernel) (Nat.le_of_ble_eq_true rfl) ?_
  intro p e s m below meth c ls S hr hlk hnm hsz hW hl
  have hxe := S.1
  have hcd := S.2.1
  subst hsz
  have hl : lv_has ls 2 [(0, .ref (B 0)), (1, .int x)] := hl
  refine lv_aload_n hxe hcd dX10_mark_0 rfl (lv_at hl 0 rfl) ?_
  refine gf_X10_186 S hW dX10_mark_1 ?_
  refine r_as (y := (nI 0)) (hx0) ?_
  refine lv_if_eq (tgt := 8) hxe hcd dX10_mark_4 (by decide) (fun _ => ?_) (fun h => absurd (by decide) h)
  refine lv_aload_n hxe hcd dX10_mark_8 rfl (lv_at hl 0 rfl) ?_
  refine lv_aload_n hxe hcd dX10_mark_9 rfl (lv_at hl 0 rfl) ?_
  refine r_calli0 (r_runV hZ S hW (As := []) (rest := [.ref (B 0)]) (t_X10_sign l hZ B ν s.heap.size (pp := pp) hpp hen hn60 t htx (by omega)) k_X10_190 (r_recv hW (x := 0) (List.mem_range.mpr (by decide)) rfl rfl) (hl.1) rfl rfl (Nat.le_of_ble_eq_true rfl) ⟨Nat.le_of_ble_eq_true rfl, Nat.le_of_ble_eq_true rfl⟩ ⟨Nat.le_of_ble_eq_true rfl, Nat.le_of_ble_eq_true rfl⟩ dX10_mark_10) hW (fun r10 H locs hp10 hW => ?_)
  have hp10 := hp10.symm
  subst hp10
  refine lv_iload_n hxe hcd dX10_mark_13 rfl (lv_at hl 1 rfl) ?_
  refine lv_icmp_eq (tgt := 21) hxe hcd dX10_mark_14 (by decide) (fun c14 => ?_) (fun c14 => ?_)
  · refine lv_iconst (v := (nI 0)) hxe hcd dX10_mark_21 (by decide) ?_
    refine gp_X10_186 S hW (by decide +kernel) (by decide +kernel) dX10_mark_22 (fun H locs hW => ?_)
    refine lv_aload_n hxe hcd dX10_mark_25 rfl (lv_at hl 0 rfl) ?_
    refine lv_dup hxe hcd dX10_mark_26 rfl ?_
    refine gf_X10_180 S hW dX10_mark_27 ?_
    refine r_as (y := (nI pp)) (by rw [up1_s, upd_o (by decide), hpp]) ?_
    refine lv_aload_n hxe hcd dX10_mark_30 rfl (lv_at hl 0 rfl) ?_
    refine gf_X10_186 S hW dX10_mark_31 ?_
    refine r_as (y := (nI 0)) (by rw [up1_s, upd_s]) ?_
    refine lv_if_eq (tgt := 41) hxe hcd dX10_mark_34 (by decide) (fun _ => ?_) (fun h => absurd (by decide) h)
    refine lv_iconst (v := (nI 1)) hxe hcd dX10_mark_41 (by decide) ?_
    refine n_iadd S (a := pp) (b := 1) dX10_mark_42 ?_
    refine gp_X10_180 S hW dX10_mark_43 (fun H locs hW => ?_)
    refine r_vret S hr hlk (F := (mE Z B)) (u := (up1 (up1 ν 0 (upd (ν 0) 21 (nI 0))) 0 (upd ((up1 ν 0 (upd (ν 0) 21 (nI 0))) 0) 18 (nI (pp + 1))))) hW ?_ dX10_mark_46
    refine Or.inl ⟨c14, ?_⟩
    rw [PM, up1_s, up1_2, upd_c _ (show 21 ≠ 18 by decide)]
  · refine lv_iconst (v := (nI 1)) hxe hcd dX10_mark_17 (by decide) ?_
    refine lv_goto (tgt := 22) hxe hcd dX10_mark_18 (by decide) ?_
    refine gp_X10_186 S hW (by decide +kernel) (by decide +kernel) dX10_mark_22 (fun H locs hW => ?_)
    refine lv_aload_n hxe hcd dX10_mark_25 rfl (lv_at hl 0 rfl) ?_
    refine lv_dup hxe hcd dX10_mark_26 rfl ?_
    refine gf_X10_180 S hW dX10_mark_27 ?_
    refine r_as (y := (nI pp)) (by rw [up1_s, upd_o (by decide), hpp]) ?_
    refine lv_aload_n hxe hcd dX10_mark_30 rfl (lv_at hl 0 rfl) ?_
    refine gf_X10_186 S hW dX10_mark_31 ?_
    refine r_as (y := (nI 1)) (by rw [up1_s, upd_s]) ?_
    refine lv_if_eq (tgt := 41) hxe hcd dX10_mark_34 (by decide) (fun h => absurd h (by decide)) (fun _ => ?_)
    refine lv_iconst (v := (nI 0)) hxe hcd dX10_mark_37 (by decide) ?_
    refine lv_goto (tgt := 42) hxe hcd dX10_mark_38 (by decide) ?_
    refine n_iadd S (a := pp) (b := 0) dX10_mark_42 ?_
    refine gp_X10_180 S hW dX10_mark_43 (fun H locs hW => ?_)
    refine r_vret S hr hlk (F := (mE Z B)) (u := (up1 (up1 ν 0 (upd (ν 0) 21 (nI 1))) 0 (upd ((up1 ν 0 (upd (ν 0) 21 (nI 1))) 0) 18 (nI (pp + 0))))) hW ?_ dX10_mark_46
    refine Or.inr ⟨c14, ?_⟩
    rw [PM, up1_s, up1_2, upd_c _ (show 21 ≠ 18 by decide)]
    rfl
set_option maxHeartbeats 4000000 in
set_option maxRecDepth 100000 in
theorem t_X10_digits (l : Launch) {Z : ZT} (hZ : zOK Z) (B : Nat → Nat) (ν : MM) (sz : Nat) {mo : Nat} (hmo : mo ≤ 3) {n pp : Nat} (hpp : ν 0 18 = nI pp) (hen : ν 0 19 = nI n) (hn60 : n ≤ 60) (t : Nat → Nat) (htx : ∀ j, j < n → ν 8 j = nI (t j) ∧ t j < 128) (hpn : pp ≤ 60) (hx0 : ν 0 21 = nI 0) (hpn2 : pp ≤ n) : XMi l yX10_digits cX10_digits 4 (some .int) 1 [.ref (B 0), .int (nI mo)] Z mds B (mE Z B) ν sz (fun r u => ∃ d, DG t n pp mo d ∧ ((d = 0 ∧ r = nI 0 ∧ u = PM ν pp 1) ∨ (0 < d ∧ r = nI (dvN t pp d) ∧ u = PM ν (pp + d) 0))) := by
  refine r_met (E := (mE Z B ν)) (by decide +kernel) (Nat.le_of_ble_eq_true rfl) ?_
  intro p e s m below meth c ls S hr hlk hnm hsz hW hl
  have hxe := S.1
  have hcd := S.2.1
  subst hsz
  have hl : lv_has ls 4 [(0, .ref (B 0)), (1, .int (nI mo))] := hl
  refine lv_iconst (v := (nI 0)) hxe hcd dX10_digits_0 (by decide) ?_
  refine lv_istore_n (lv' := [(2, .int (nI 0)), (0, .ref (B 0)), (1, .int (nI mo))]) hxe hcd dX10_digits_1 rfl hl (by decide) rfl (fun ls hl => ?_)
  refine lv_iconst (v := (nI 0)) hxe hcd dX10_digits_2 (by decide) ?_
  refine lv_istore_n (lv' := [(3, .int (nI 0)), (2, .int (nI 0)), (0, .ref (B 0)), (1, .int (nI mo))]) hxe hcd dX10_digits_3 rfl hl (by decide) rfl (fun ls hl => ?_)
  have hl : lv_has ls 4 [(3, .int (nI 0)), (2, .int (nI (dvN t pp 0))), (0, .ref (B 0)), (1, .int (nI mo))] := hl
  have loop4 : ∀ (n_ : Nat) (d : Nat), mo - d < n_ → (d ≤ mo) → (dgN t n pp d) → (pp + d ≤ n) → ∀ (H : Heap) (locs : List Loc) (ls : Array Slot), wX Z mds B (mE Z B (PM ν (pp + d) 0)) (fA mds B (mE Z B ν) s.heap.size) s H locs → lv_has ls 4 [(0, .ref (B 0)), (1, .int (nI mo)), (2, .int (nI (dvN t pp d))), (3, .int (nI d))] → W p l e (rmD 1 0 0) s m ([.ref (B 0), .int (nI mo)] : List Value).toArray below meth c H locs 0 0 (MQ below (va_Qi (fun r u => ∃ d, DG t n pp mo d ∧ ((d = 0 ∧ r = nI 0 ∧ u = PM ν pp 1) ∨ (0 < d ∧ r = nI (dvN t pp d) ∧ u = PM ν (pp + d) 0))) (fun u t => qB Z mds B ((mE Z B) u) (fA mds B (mE Z B ν) s.heap.size) t) (fA mds B (mE Z B ν) s.heap.size)) ([.ref (B 0), .int (nI mo)] : List Value).toArray s 0 0 (fA mds B (mE Z B ν) s.heap.size)) (F0 m 4 ls []) := by
    intro n_
    induction n_ with
    | zero => intro d hm; exact absurd hm (Nat.not_lt_zero _)
    | succ n_ ih4 =>
      intro d hm hd hdg hpd H locs ls hW hl
      refine lv_aload_n hxe hcd dX10_digits_4 rfl (lv_at hl 0 rfl) ?_
      refine gf_X10_186 S hW dX10_digits_5 ?_
      refine r_as (y := (nI 0)) ((PM_x _ _ _)) ?_
      refine lv_if_ne (tgt := 59) hxe hcd dX10_digits_8 (by decide) (fun h => absurd h (by decide)) (fun _ => ?_)
      refine lv_iload_n hxe hcd dX10_digits_11 rfl (lv_at hl 3 rfl) ?_
      refine lv_iload_n hxe hcd dX10_digits_12 rfl (lv_at hl 1 rfl) ?_
      refine n_ge S (a := d) (b := mo) (by omega) (by omega) dX10_digits_13 (tgt := 59) (by decide) (fun c13 => ?_) (fun c13 => ?_)
      · refine lv_aload_n hxe hcd dX10_digits_59 rfl (lv_at hl 0 rfl) ?_
        refine lv_dup hxe hcd dX10_digits_60 rfl ?_
        refine gf_X10_186 S hW dX10_digits_61 ?_
        refine r_as (y := (nI 0)) ((PM_x _ _ _)) ?_
        refine lv_iload_n hxe hcd dX10_digits_64 rfl (lv_at hl 3 rfl) ?_
        refine n_ifne S (a := d) (by omega) dX10_digits_65 (tgt := 72) (by decide) (fun c65 => ?_) (fun c65 => ?_)
        · refine lv_iconst (v := (nI 0)) hxe hcd dX10_digits_72 (by decide) ?_
          refine lv_ior hxe hcd dX10_digits_73 ?_
          refine r_as (y := (nI 0)) (by decide) ?_
          refine gp_X10_186 S hW (by decide +kernel) (by decide +kernel) dX10_digits_74 (fun H locs hW => ?_)
          refine lv_iload_n hxe hcd dX10_digits_77 rfl (lv_at hl 2 rfl) ?_
          refine r_iret S hr hlk (F := (mE Z B)) (u := (up1 (PM ν (pp + d) 0) 0 (upd ((PM ν (pp + d) 0) 0) 21 (nI 0)))) hW ?_ dX10_digits_78
          refine ⟨d, ⟨hd, hdg, fun h => absurd h (by omega)⟩, Or.inr ⟨by omega, rfl, PM_w _ _ _ _⟩⟩
        · refine lv_iconst (v := (nI 1)) hxe hcd dX10_digits_68 (by decide) ?_
          refine lv_goto (tgt := 73) hxe hcd dX10_digits_69 (by decide) ?_
          refine lv_ior hxe hcd dX10_digits_73 ?_
          refine r_as (y := (nI 1)) (by decide) ?_
          refine gp_X10_186 S hW (by decide +kernel) (by decide +kernel) dX10_digits_74 (fun H locs hW => ?_)
          refine lv_iload_n hxe hcd dX10_digits_77 rfl (lv_at hl 2 rfl) ?_
          refine r_iret S hr hlk (F := (mE Z B)) (u := (up1 (PM ν (pp + d) 0) 0 (upd ((PM ν (pp + d) 0) 0) 21 (nI 1)))) hW ?_ dX10_digits_78
          refine ⟨d, ⟨hd, hdg, fun h => absurd h (by omega)⟩, Or.inl ⟨by omega, by rw [show d = 0 by omega]; rfl, by rw [PM_w, show d = 0 by omega]; rfl⟩⟩
      · refine lv_aload_n hxe hcd dX10_digits_16 rfl (lv_at hl 0 rfl) ?_
        refine r_calli0 (r_runV hZ S hW (As := []) (rest := []) (t_X10_sign l hZ B (PM ν (pp + d) 0) H.size (pp := (pp + d)) (PM_h _ _ _) hen hn60 t htx (by omega)) k_X10_190 (r_recv hW (x := 0) (List.mem_range.mpr (by decide)) rfl rfl) (hl.1) rfl rfl (Nat.le_of_ble_eq_true rfl) ⟨Nat.le_of_ble_eq_true rfl, Nat.le_of_ble_eq_true rfl⟩ ⟨Nat.le_of_ble_eq_true rfl, Nat.le_of_ble_eq_true rfl⟩ dX10_digits_17) hW (fun r17 H locs hp17 hW => ?_)
        have hp17 := hp17.symm
        subst hp17
        refine lv_bipush (v := (nI 48)) hxe hcd dX10_digits_20 (by decide) ?_
        refine lv_bipush (v := (nI 57)) hxe hcd dX10_digits_22 (by decide) ?_
        refine r_calli0 (r_runS hZ S hW (As := [.int (chT t n (pp + d)), .int (nI 48), .int (nI 57)]) (rest := []) (t_X10_isIn l hZ mds B (mE Z B (PM ν (pp + d) 0)) H.size (chT t n (pp + d)) (nI 48) (nI 57)) k_X10_63 (hl.1) rfl rfl (Nat.le_of_ble_eq_true rfl) ⟨Nat.le_of_ble_eq_true rfl, Nat.le_of_ble_eq_true rfl⟩ ⟨Nat.le_of_ble_eq_true rfl, Nat.le_of_ble_eq_true rfl⟩ dX10_digits_24) hW (fun r24 H locs hp24 hW => ?_)
        rcases hp24 with ⟨hp240, hp24⟩ | ⟨hp240, hp24⟩
        · subst hp240
          refine lv_if_eq (tgt := 59) hxe hcd dX10_digits_27 (by decide) (fun h => absurd h (by decide)) (fun _ => ?_)
          refine lv_bipush (v := (nI 10)) hxe hcd dX10_digits_30 (by decide) ?_
          refine lv_iload_n hxe hcd dX10_digits_32 rfl (lv_at hl 2 rfl) ?_
          refine n_imul S (a := 10) (b := (dvN t pp d)) dX10_digits_33 ?_
          refine lv_aload_n hxe hcd dX10_digits_34 rfl (lv_at hl 0 rfl) ?_
          have hdd := isD_ch (fun j hj => (htx j hj).2) hp24
          refine r_calli0 (r_runV hZ S hW (As := []) (rest := [.int (nI (10 * (dvN t pp d)))]) (t_X10_sign l hZ B (PM ν (pp + d) 0) H.size (pp := (pp + d)) (PM_h _ _ _) hen hn60 t htx (by omega)) k_X10_190 (r_recv hW (x := 0) (List.mem_range.mpr (by decide)) rfl rfl) (hl.1) rfl rfl (Nat.le_of_ble_eq_true rfl) ⟨Nat.le_of_ble_eq_true rfl, Nat.le_of_ble_eq_true rfl⟩ ⟨Nat.le_of_ble_eq_true rfl, Nat.le_of_ble_eq_true rfl⟩ dX10_digits_35) hW (fun r35 H locs hp35 hW => ?_)
          have hp35 := hp35.symm
          subst hp35
          refine r_as (y := (nI (t (pp + d)))) (by rw [chT, if_pos hdd.1]) ?_
          refine n_iadd S (a := (10 * (dvN t pp d))) (b := (t (pp + d))) dX10_digits_38 ?_
          refine lv_bipush (v := (nI 48)) hxe hcd dX10_digits_39 (by decide) ?_
          refine n_isub S (a := ((10 * (dvN t pp d)) + (t (pp + d)))) (b := 48) (by omega) dX10_digits_41 ?_
          refine lv_istore_n (lv' := [(2, .int (nI (((10 * (dvN t pp d)) + (t (pp + d))) - 48))), (0, .ref (B 0)), (1, .int (nI mo)), (3, .int (nI d))]) hxe hcd dX10_digits_42 rfl hl (by decide) rfl (fun ls hl => ?_)
          refine lv_aload_n hxe hcd dX10_digits_43 rfl (lv_at hl 1 rfl) ?_
          refine lv_dup hxe hcd dX10_digits_44 rfl ?_
          refine gf_X10_180 S hW dX10_digits_45 ?_
          refine r_as (y := (nI (pp + d))) ((PM_h _ _ _)) ?_
          refine lv_iconst (v := (nI 1)) hxe hcd dX10_digits_48 (by decide) ?_
          refine n_iadd S (a := (pp + d)) (b := 1) dX10_digits_49 ?_
          refine gp_X10_180 S hW dX10_digits_50 (fun H locs hW => ?_)
          refine lv_iinc (v := (nI (d + 1))) (lv' := [(3, .int (nI (d + 1))), (2, .int (nI (((10 * (dvN t pp d)) + (t (pp + d))) - 48))), (0, .ref (B 0)), (1, .int (nI mo))]) hxe hcd dX10_digits_53 hl (k := 3) rfl (nI_add d 1) (by decide) rfl (fun ls hl => ?_)
          refine lv_goto (tgt := 4) hxe hcd dX10_digits_56 (by decide) ?_
          have hl : lv_has ls 4 [(3, .int (nI (d + 1))), (2, .int (nI (dvN t pp (d + 1)))), (0, .ref (B 0)), (1, .int (nI mo))] := by
            rw [show dvN t pp (d + 1) = 10 * dvN t pp d + t (pp + d) - 48 from by rw [dvN]; omega]
            exact lv_sub hl [0, 1, 2, 3] rfl
          exact ih4 (d + 1) (by omega) (by omega) ⟨hdg, hp24⟩ (by omega) _ _ _ (by rw [PM_p] at hW; exact hW) (lv_sub hl [2, 3, 1, 0] rfl)
        · subst hp240
          refine lv_if_eq (tgt := 59) hxe hcd dX10_digits_27 (by decide) (fun _ => ?_) (fun h => absurd (by decide) h)
          refine lv_aload_n hxe hcd dX10_digits_59 rfl (lv_at hl 0 rfl) ?_
          refine lv_dup hxe hcd dX10_digits_60 rfl ?_
          refine gf_X10_186 S hW dX10_digits_61 ?_
          refine r_as (y := (nI 0)) ((PM_x _ _ _)) ?_
          refine lv_iload_n hxe hcd dX10_digits_64 rfl (lv_at hl 3 rfl) ?_
          refine n_ifne S (a := d) (by omega) dX10_digits_65 (tgt := 72) (by decide) (fun c65 => ?_) (fun c65 => ?_)
          · refine lv_iconst (v := (nI 0)) hxe hcd dX10_digits_72 (by decide) ?_
            refine lv_ior hxe hcd dX10_digits_73 ?_
            refine r_as (y := (nI 0)) (by decide) ?_
            refine gp_X10_186 S hW (by decide +kernel) (by decide +kernel) dX10_digits_74 (fun H locs hW => ?_)
            refine lv_iload_n hxe hcd dX10_digits_77 rfl (lv_at hl 2 rfl) ?_
            refine r_iret S hr hlk (F := (mE Z B)) (u := (up1 (PM ν (pp + d) 0) 0 (upd ((PM ν (pp + d) 0) 0) 21 (nI 0)))) hW ?_ dX10_digits_78
            refine ⟨d, ⟨hd, hdg, fun h => hp24⟩, Or.inr ⟨by omega, rfl, PM_w _ _ _ _⟩⟩
          · refine lv_iconst (v := (nI 1)) hxe hcd dX10_digits_68 (by decide) ?_
            refine lv_goto (tgt := 73) hxe hcd dX10_digits_69 (by decide) ?_
            refine lv_ior hxe hcd dX10_digits_73 ?_
            refine r_as (y := (nI 1)) (by decide) ?_
            refine gp_X10_186 S hW (by decide +kernel) (by decide +kernel) dX10_digits_74 (fun H locs hW => ?_)
            refine lv_iload_n hxe hcd dX10_digits_77 rfl (lv_at hl 2 rfl) ?_
            refine r_iret S hr hlk (F := (mE Z B)) (u := (up1 (PM ν (pp + d) 0) 0 (upd ((PM ν (pp + d) 0) 0) 21 (nI 1)))) hW ?_ dX10_digits_78
            refine ⟨d, ⟨hd, hdg, fun h => hp24⟩, Or.inl ⟨by omega, by rw [show d = 0 by omega]; rfl, by rw [PM_w, show d = 0 by omega]; rfl⟩⟩
  exact loop4 (mo + 1) 0 (Nat.lt_succ_self _) (Nat.zero_le _) trivial hpn2 _ _ _ (by rw [Nat.add_zero, PM_id hpp hx0]; exact hW) (lv_sub hl [2, 3, 1, 0] rfl)
set_option maxHeartbeats 4000000 in
set_option maxRecDepth 100000 in
theorem t_X10_behind (l : Launch) {Z : ZT} (hZ : zOK Z) (B : Nat → Nat) (ν : MM) (sz : Nat) {mo : Nat} (hmo : mo ≤ 3) {n pp : Nat} (hpp : ν 0 18 = nI pp) (hen : ν 0 19 = nI n) (hn60 : n ≤ 60) (t : Nat → Nat) (htx : ∀ j, j < n → ν 8 j = nI (t j) ∧ t j < 128) (hpn : pp ≤ 60) (hx0 : ν 0 21 = nI 0) (hpn2 : pp ≤ n) : XMi l yX10_behind cX10_behind 2 (some .int) 2 [.ref (B 0), .int (nI mo)] Z mds B (mE Z B) ν sz (fun r u => (¬ chT t n pp = nI 32 ∧ r = nI 0 ∧ u = PM ν pp 1) ∨ (chT t n pp = nI 32 ∧ ∃ d, DG t n (pp + 1) mo d ∧ ((d = 0 ∧ r = nI 0 ∧ u = PM ν (pp + 1) 1) ∨ (0 < d ∧ r = nI (dvN t (pp + 1) d) ∧ u = PM ν (pp + 1 + d) 0)))) := by
  refine r_met (E := (mE Z B ν)) (by decide +kernel) (Nat.le_of_ble_eq_true rfl) ?_
  intro p e s m below meth c ls S hr hlk hnm hsz hW hl
  have hxe := S.1
  have hcd := S.2.1
  subst hsz
  have hl : lv_has ls 2 [(0, .ref (B 0)), (1, .int (nI mo))] := hl
  refine lv_aload_n hxe hcd dX10_behind_0 rfl (lv_at hl 0 rfl) ?_
  refine lv_bipush (v := (nI 32)) hxe hcd dX10_behind_1 (by decide) ?_
  refine r_callv (F := (mE Z B)) (r_runV hZ S hW (As := [.int (nI 32)]) (rest := []) (t_X10_mark l hZ B ν s.heap.size (pp := pp) hpp hen hn60 t htx (by omega) hx0 (nI 32)) k_X10_194 (r_recv hW (x := 0) (List.mem_range.mpr (by decide)) rfl rfl) (hl.1) rfl rfl (Nat.le_of_ble_eq_true rfl) ⟨Nat.le_of_ble_eq_true rfl, Nat.le_of_ble_eq_true rfl⟩ ⟨Nat.le_of_ble_eq_true rfl, Nat.le_of_ble_eq_true rfl⟩ dX10_behind_3) hW (fun u3 H locs hp3 hW => ?_)
  rcases hp3 with ⟨hk, hu⟩ | ⟨hk, hu⟩
  · have hu : u3 = PM ν (pp + 1) 0 := hu
    subst hu
    refine lv_aload_n hxe hcd dX10_behind_6 rfl (lv_at hl 0 rfl) ?_
    refine gf_X10_186 S hW dX10_behind_7 ?_
    refine r_as (y := (nI 0)) ((PM_x _ _ _)) ?_
    refine lv_if_eq (tgt := 17) hxe hcd dX10_behind_10 (by decide) (fun _ => ?_) (fun h => absurd (by decide) h)
    have hlt : pp < n := chT_in (x := 32) (by decide) hk
    refine lv_aload_n hxe hcd dX10_behind_17 rfl (lv_at hl 0 rfl) ?_
    refine lv_iload_n hxe hcd dX10_behind_18 rfl (lv_at hl 1 rfl) ?_
    refine r_calli (F := (mE Z B)) (r_runV hZ S hW (As := [.int (nI mo)]) (rest := []) (t_X10_digits l hZ B (PM ν (pp + 1) 0) H.size (mo := mo) (by omega) (pp := (pp + 1)) (PM_h _ _ _) hen hn60 t htx (by omega) (PM_x _ _ _) (by omega)) k_X10_197 (r_recv hW (x := 0) (List.mem_range.mpr (by decide)) rfl rfl) (hl.1) rfl rfl (Nat.le_of_ble_eq_true rfl) ⟨Nat.le_of_ble_eq_true rfl, Nat.le_of_ble_eq_true rfl⟩ ⟨Nat.le_of_ble_eq_true rfl, Nat.le_of_ble_eq_true rfl⟩ dX10_behind_19) hW (fun r19 u19 H locs hp19 hW => ?_)
    obtain ⟨d19, hdg19, hp19⟩ := hp19
    have hdm19 := hdg19.1
    rcases hp19 with ⟨hd019, hr, hu⟩ | ⟨hd019, hr, hu⟩
    · have hu : u19 = PM ν (pp + 1) 1 := by rw [hu, PM_PM]
      subst hu
      subst hr
      refine r_iret S hr hlk (F := (mE Z B)) (u := (PM ν (pp + 1) 1)) hW ?_ dX10_behind_22
      exact Or.inr ⟨hk, d19, hdg19, Or.inl ⟨hd019, rfl, rfl⟩⟩
    · have hu : u19 = PM ν ((pp + 1) + d19) 0 := by rw [hu, PM_PM]
      subst hu
      subst hr
      refine r_iret S hr hlk (F := (mE Z B)) (u := (PM ν ((pp + 1) + d19) 0)) hW ?_ dX10_behind_22
      exact Or.inr ⟨hk, d19, hdg19, Or.inr ⟨hd019, rfl, rfl⟩⟩
  · have hu : u3 = PM ν pp 1 := hu
    subst hu
    refine lv_aload_n hxe hcd dX10_behind_6 rfl (lv_at hl 0 rfl) ?_
    refine gf_X10_186 S hW dX10_behind_7 ?_
    refine r_as (y := (nI 1)) ((PM_x _ _ _)) ?_
    refine lv_if_eq (tgt := 17) hxe hcd dX10_behind_10 (by decide) (fun h => absurd h (by decide)) (fun _ => ?_)
    refine lv_iconst (v := (nI 0)) hxe hcd dX10_behind_13 (by decide) ?_
    refine lv_goto (tgt := 22) hxe hcd dX10_behind_14 (by decide) ?_
    refine r_iret S hr hlk (F := (mE Z B)) (u := (PM ν pp 1)) hW ?_ dX10_behind_22
    exact Or.inl ⟨hk, rfl, rfl⟩
set_option maxHeartbeats 4000000 in
set_option maxRecDepth 100000 in
theorem t_X10_word (l : Launch) {Z : ZT} (hZ : zOK Z) (B : Nat → Nat) (ν : MM) (sz : Nat) {n pp : Nat} (hpp : ν 0 18 = nI pp) (hen : ν 0 19 = nI n) (hn60 : n ≤ 60) (t : Nat → Nat) (htx : ∀ j, j < n → ν 8 j = nI (t j) ∧ t j < 128) (hpn : pp ≤ 60) (hx0 : ν 0 21 = nI 0) (hpn2 : pp ≤ n) (hwd : ∀ j, j < 63 → ν 11 j = nI (WD j)) (hwa : ∀ j, j < 13 → ν 12 j = nI (WA j)) : XMi l yX10_word cX10_word 5 (some .int) 1 [.ref (B 0)] Z mds B (mE Z B) ν sz (fun r u => ∃ f : Nat → Int32, (∃ w, WOK t n pp w ∧ r = nI w ∧ u = PL ν (pp + wl w) 0 f) ∨ (∃ k, WNO t n pp k ∧ r = -1 ∧ u = PL ν (pp + k) 1 f)) := by
  refine r_met (E := (mE Z B ν)) (by decide +kernel) (Nat.le_of_ble_eq_true rfl) ?_
  intro p e s m below meth c ls S hr hlk hnm hsz hW hl
  have hxe := S.1
  have hcd := S.2.1
  subst hsz
  have hl : lv_has ls 5 [(0, .ref (B 0))] := hl
  refine lv_iconst (v := (nI 0)) hxe hcd dX10_word_0 (by decide) ?_
  refine lv_istore_n (lv' := [(1, .int (nI 0)), (0, .ref (B 0))]) hxe hcd dX10_word_1 rfl hl (by decide) rfl (fun ls hl => ?_)
  have loop2 : ∀ (n_ : Nat) (i : Nat), 12 - i < n_ → (i ≤ 12) → ∀ (H : Heap) (locs : List Loc) (ls : Array Slot), wX Z mds B (mE Z B (up1 ν 10 (cpR i (fun _ => nI 1) (ν 10)))) (fA mds B (mE Z B ν) s.heap.size) s H locs → lv_has ls 5 [(0, .ref (B 0)), (1, .int (nI i))] → W p l e (rmD 1 0 0) s m ([.ref (B 0)] : List Value).toArray below meth c H locs 0 0 (MQ below (va_Qi (fun r u => ∃ f : Nat → Int32, (∃ w, WOK t n pp w ∧ r = nI w ∧ u = PL ν (pp + wl w) 0 f) ∨ (∃ k, WNO t n pp k ∧ r = -1 ∧ u = PL ν (pp + k) 1 f)) (fun u t => qB Z mds B ((mE Z B) u) (fA mds B (mE Z B ν) s.heap.size) t) (fA mds B (mE Z B ν) s.heap.size)) ([.ref (B 0)] : List Value).toArray s 0 0 (fA mds B (mE Z B ν) s.heap.size)) (F0 m 2 ls []) := by
    intro n_
    induction n_ with
    | zero => intro i hm; exact absurd hm (Nat.not_lt_zero _)
    | succ n_ ih2 =>
      intro i hm hi H locs ls hW hl
      refine lv_iload_n hxe hcd dX10_word_2 rfl (lv_at hl 1 rfl) ?_
      refine lv_bipush (v := (nI 12)) hxe hcd dX10_word_3 (by decide) ?_
      refine n_ge S (a := i) (b := 12) (by omega) (by omega) dX10_word_5 (tgt := 21) (by decide) (fun c5 => ?_) (fun c5 => ?_)
      · refine lv_iconst (v := (nI 0)) hxe hcd dX10_word_21 (by decide) ?_
        refine lv_istore_n (lv' := [(1, .int (nI 0)), (0, .ref (B 0))]) hxe hcd dX10_word_22 rfl hl (by decide) rfl (fun ls hl => ?_)
        refine lv_iconst (v := (-1)) hxe hcd dX10_word_23 (by decide) ?_
        refine lv_istore_n (lv' := [(2, .int (-1)), (1, .int (nI 0)), (0, .ref (B 0))]) hxe hcd dX10_word_24 rfl hl (by decide) rfl (fun ls hl => ?_)
        have loop25 : ∀ (n_ : Nat) (k : Nat), 8 - k < n_ → (k ≤ 7) → (∀ w, w < 12 → wl w ≤ k → ¬ PW t n pp w (wl w)) → (∃ w, w < 12 ∧ PW t n pp w k) → ∀ (H : Heap) (locs : List Loc) (ls : Array Slot), wX Z mds B (mE Z B (PL ν (pp + k) 0 (fun w => b2 (PW t n pp w k)))) (fA mds B (mE Z B ν) s.heap.size) s H locs → lv_has ls 5 [(0, .ref (B 0)), (1, .int (nI k)), (2, .int (-1))] → W p l e (rmD 1 0 0) s m ([.ref (B 0)] : List Value).toArray below meth c H locs 0 0 (MQ below (va_Qi (fun r u => ∃ f : Nat → Int32, (∃ w, WOK t n pp w ∧ r = nI w ∧ u = PL ν (pp + wl w) 0 f) ∨ (∃ k, WNO t n pp k ∧ r = -1 ∧ u = PL ν (pp + k) 1 f)) (fun u t => qB Z mds B ((mE Z B) u) (fA mds B (mE Z B ν) s.heap.size) t) (fA mds B (mE Z B ν) s.heap.size)) ([.ref (B 0)] : List Value).toArray s 0 0 (fA mds B (mE Z B ν) s.heap.size)) (F0 m 25 ls []) := by
          intro n_
          induction n_ with
          | zero => intro k hm; exact absurd hm (Nat.not_lt_zero _)
          | succ n_ ih25 =>
            intro k hm hk hno hs H locs ls hW hl
            have hpk : pp + k ≤ n := by
              obtain ⟨w0, hw0, hp0⟩ := hs
              rcases PW_in hp0 with h | h
              · omega
              · exact h
            refine lv_iload_n hxe hcd dX10_word_25 rfl (lv_at hl 2 rfl) ?_
            refine lv_if_ge (tgt := 222) hxe hcd dX10_word_26 (by decide) (fun h => absurd h (by decide)) (fun _ => ?_)
            refine lv_aload_n hxe hcd dX10_word_29 rfl (lv_at hl 0 rfl) ?_
            refine gf_X10_186 S hW dX10_word_30 ?_
            refine r_as (y := (nI 0)) ((PL_x _ _ _ _)) ?_
            refine lv_if_ne (tgt := 222) hxe hcd dX10_word_33 (by decide) (fun h => absurd h (by decide)) (fun _ => ?_)
            refine lv_iconst (v := (nI 0)) hxe hcd dX10_word_36 (by decide) ?_
            refine lv_istore_n (lv' := [(3, .int (nI 0)), (0, .ref (B 0)), (1, .int (nI k)), (2, .int (-1))]) hxe hcd dX10_word_37 rfl hl (by decide) rfl (fun ls hl => ?_)
            refine lv_iconst (v := (nI 0)) hxe hcd dX10_word_38 (by decide) ?_
            refine lv_istore (lv' := [(4, .int (nI 0)), (3, .int (nI 0)), (0, .ref (B 0)), (1, .int (nI k)), (2, .int (-1))]) hxe hcd dX10_word_39 hl (by decide) rfl (fun ls hl => ?_)
            have hl : lv_has ls 5 [(4, .int (nI 0)), (3, .int (b2 (∃ w, w < 0 ∧ PW t n pp w (k + 1)))), (0, .ref (B 0)), (1, .int (nI k)), (2, .int (-1))] := by rw [b2_f (fun ⟨w, h, _⟩ => absurd h (Nat.not_lt_zero _))]; exact hl
            have loop41 : ∀ (n_ : Nat) (i : Nat), 12 - i < n_ → (i ≤ 12) → ∀ (H : Heap) (locs : List Loc) (ls : Array Slot), wX Z mds B (mE Z B (PL ν (pp + k) 0 (lfR t n pp k i))) (fA mds B (mE Z B ν) s.heap.size) s H locs → lv_has ls 5 [(0, .ref (B 0)), (1, .int (nI k)), (2, .int (-1)), (3, .int (b2 (∃ w, w < i ∧ PW t n pp w (k + 1)))), (4, .int (nI i))] → W p l e (rmD 1 0 0) s m ([.ref (B 0)] : List Value).toArray below meth c H locs 0 0 (MQ below (va_Qi (fun r u => ∃ f : Nat → Int32, (∃ w, WOK t n pp w ∧ r = nI w ∧ u = PL ν (pp + wl w) 0 f) ∨ (∃ k, WNO t n pp k ∧ r = -1 ∧ u = PL ν (pp + k) 1 f)) (fun u t => qB Z mds B ((mE Z B) u) (fA mds B (mE Z B ν) s.heap.size) t) (fA mds B (mE Z B ν) s.heap.size)) ([.ref (B 0)] : List Value).toArray s 0 0 (fA mds B (mE Z B ν) s.heap.size)) (F0 m 41 ls []) := by
              intro n_
              induction n_ with
              | zero => intro i hm; exact absurd hm (Nat.not_lt_zero _)
              | succ n_ ih41 =>
                intro i hm hi H locs ls hW hl
                refine lv_iload hxe hcd dX10_word_41 (lv_at hl 4 rfl) ?_
                refine lv_bipush (v := (nI 12)) hxe hcd dX10_word_43 (by decide) ?_
                refine n_ge S (a := i) (b := 12) (by omega) (by omega) dX10_word_45 (tgt := 130) (by decide) (fun c45 => ?_) (fun c45 => ?_)
                · have e12 : i = 12 := by omega
                  by_cases hM0 : ∃ w, w < i ∧ PW t n pp w (k + 1)
                  · rw [b2_t hM0] at hl
                    have hM := hM0
                    rw [e12] at hM
                    refine lv_aload_n hxe hcd dX10_word_130 rfl (lv_at hl 0 rfl) ?_
                    refine lv_iload_n hxe hcd dX10_word_131 rfl (lv_at hl 3 rfl) ?_
                    refine lv_if_ne (tgt := 139) hxe hcd dX10_word_132 (by decide) (fun _ => ?_) (fun h => absurd h (by decide))
                    refine lv_iconst (v := (nI 0)) hxe hcd dX10_word_139 (by decide) ?_
                    refine gp_X10_186 S hW (by decide +kernel) (by decide +kernel) dX10_word_140 (fun H locs hW => ?_)
                    refine lv_aload_n hxe hcd dX10_word_143 rfl (lv_at hl 0 rfl) ?_
                    refine lv_dup hxe hcd dX10_word_144 rfl ?_
                    refine gf_X10_180 S hW dX10_word_145 ?_
                    refine r_as (y := (nI (pp + k))) (by rw [up1_s, upd_o (by decide)]; exact PL_h _ _ _ _) ?_
                    refine lv_iload_n hxe hcd dX10_word_148 rfl (lv_at hl 3 rfl) ?_
                    refine lv_if_eq (tgt := 156) hxe hcd dX10_word_149 (by decide) (fun h => absurd h (by decide)) (fun _ => ?_)
                    refine lv_iconst (v := (nI 1)) hxe hcd dX10_word_152 (by decide) ?_
                    refine lv_goto (tgt := 157) hxe hcd dX10_word_153 (by decide) ?_
                    refine n_iadd S (a := (pp + k)) (b := 1) dX10_word_157 ?_
                    refine gp_X10_180 S hW dX10_word_158 (fun H locs hW => ?_)
                    refine lv_iinc (v := (nI (k + 1))) (lv' := [(1, .int (nI (k + 1))), (0, .ref (B 0)), (2, .int (-1)), (3, .int (nI 1)), (4, .int (nI i))]) hxe hcd dX10_word_161 hl (k := 1) rfl (nI_add k 1) (by decide) rfl (fun ls hl => ?_)
                    refine lv_iconst (v := (nI 0)) hxe hcd dX10_word_164 (by decide) ?_
                    refine lv_istore (lv' := [(4, .int (nI 0)), (1, .int (nI (k + 1))), (0, .ref (B 0)), (2, .int (-1)), (3, .int (nI 1))]) hxe hcd dX10_word_165 hl (by decide) rfl (fun ls hl => ?_)
                    have loop167 : ∀ (n_ : Nat) (i2 : Nat), 12 - i2 < n_ → (i2 ≤ 12) → ∀ (H : Heap) (locs : List Loc) (ls : Array Slot), wX Z mds B (mE Z B (PL ν (pp + k + 1) 0 (fun w => b2 (PW t n pp w (k + 1))))) (fA mds B (mE Z B ν) s.heap.size) s H locs → lv_has ls 5 [(0, .ref (B 0)), (1, .int (nI (k + 1))), (2, .int (oI (fnd (QW t n pp k) i2))), (4, .int (nI i2))] → W p l e (rmD 1 0 0) s m ([.ref (B 0)] : List Value).toArray below meth c H locs 0 0 (MQ below (va_Qi (fun r u => ∃ f : Nat → Int32, (∃ w, WOK t n pp w ∧ r = nI w ∧ u = PL ν (pp + wl w) 0 f) ∨ (∃ k, WNO t n pp k ∧ r = -1 ∧ u = PL ν (pp + k) 1 f)) (fun u t => qB Z mds B ((mE Z B) u) (fA mds B (mE Z B ν) s.heap.size) t) (fA mds B (mE Z B ν) s.heap.size)) ([.ref (B 0)] : List Value).toArray s 0 0 (fA mds B (mE Z B ν) s.heap.size)) (F0 m 167 ls []) := by
                      intro n_
                      induction n_ with
                      | zero => intro i2 hm; exact absurd hm (Nat.not_lt_zero _)
                      | succ n_ ih167 =>
                        intro i2 hm hi2 H locs ls hW hl
                        refine lv_iload hxe hcd dX10_word_167 (lv_at hl 3 rfl) ?_
                        refine lv_bipush (v := (nI 12)) hxe hcd dX10_word_169 (by decide) ?_
                        refine n_ge S (a := i2) (b := 12) (by omega) (by omega) dX10_word_171 (tgt := 219) (by decide) (fun c171 => ?_) (fun c171 => ?_)
                        · have e122 : i2 = 12 := by omega
                          subst e122
                          rcases hF : fnd (QW t n pp k) 12 with _ | wf
                          · rw [hF, oI_none] at hl
                            have hQ := fnd_none hF
                            refine lv_goto (tgt := 25) hxe hcd dX10_word_219 (by decide) ?_
                            exact ih25 (k + 1) (by omega) (by obtain ⟨w0, hw0, hp0⟩ := hM; exact PW_7 hw0 hp0) (QW_no hQ hno) hM _ _ _ hW (lv_sub hl [0, 1, 2] rfl)
                          · rw [hF, oI_some] at hl
                            have hq := fnd_some hF
                            have hok := QW_ok hq.1 hq.2
                            refine lv_goto (tgt := 25) hxe hcd dX10_word_219 (by decide) ?_
                            refine lv_iload_n hxe hcd dX10_word_25 rfl (lv_at hl 2 rfl) ?_
                            refine n_ifge S (a := wf) (by omega) dX10_word_26 (tgt := 222) (by decide) ?_
                            refine lv_iload_n hxe hcd dX10_word_222 rfl (lv_at hl 2 rfl) ?_
                            refine r_iret S hr hlk (F := (mE Z B)) (u := (PL ν (pp + k + 1) 0 (fun w => b2 (PW t n pp w (k + 1))))) hW ?_ dX10_word_223
                            exact ⟨_, Or.inl ⟨wf, hok.1, rfl, by rw [hok.2]; rfl⟩⟩
                        · have hwai := WA_12 (show i2 < 12 by omega)
                          refine lv_aload_n hxe hcd dX10_word_174 rfl (lv_at hl 0 rfl) ?_
                          refine gf_X10_44 S hW dX10_word_175 ?_
                          refine lv_iload hxe hcd dX10_word_178 (lv_at hl 3 rfl) ?_
                          refine gm_ald S hW (i := 10) (k := i2) (n := 12) (by decide) (by decide) rfl (by omega) dX10_word_180 ?_
                          refine r_as (y := (b2 (PW t n pp i2 (k + 1)))) (rfl) ?_
                          refine lv_iconst (v := (nI 1)) hxe hcd dX10_word_181 (by decide) ?_
                          refine lv_icmp_ne (tgt := 211) hxe hcd dX10_word_182 (by decide) (fun c182 => ?_) (fun c182 => ?_)
                          · refine lv_iload_n hxe hcd dX10_word_211 rfl (lv_at hl 2 rfl) ?_
                            refine lv_istore_n (lv' := [(2, .int (oI (fnd (QW t n pp k) i2))), (0, .ref (B 0)), (1, .int (nI (k + 1))), (4, .int (nI i2))]) hxe hcd dX10_word_212 rfl hl (by decide) rfl (fun ls hl => ?_)
                            refine lv_iinc (v := (nI (i2 + 1))) (lv' := [(4, .int (nI (i2 + 1))), (2, .int (oI (fnd (QW t n pp k) i2))), (0, .ref (B 0)), (1, .int (nI (k + 1)))]) hxe hcd dX10_word_213 hl (k := 3) rfl (nI_add i2 1) (by decide) rfl (fun ls hl => ?_)
                            refine lv_goto (tgt := 167) hxe hcd dX10_word_216 (by decide) ?_
                            have hl : lv_has ls 5 [(4, .int (nI (i2 + 1))), (2, .int (oI (fnd (QW t n pp k) (i2 + 1)))), (0, .ref (B 0)), (1, .int (nI (k + 1)))] := by
                              rw [fnd_n (fun h => c182 (b2_1.mpr h.1))]
                              exact lv_sub hl [0, 1, 2, 3] rfl
                            exact ih167 (i2 + 1) (by omega) (by omega) _ _ _ hW (lv_sub hl [2, 3, 1, 0] rfl)
                          · refine lv_aload_n hxe hcd dX10_word_185 rfl (lv_at hl 0 rfl) ?_
                            refine gf_X10_50 S hW dX10_word_186 ?_
                            refine lv_iload hxe hcd dX10_word_189 (lv_at hl 3 rfl) ?_
                            refine gm_ald S hW (i := 12) (k := i2) (n := 13) (by decide) (by decide) rfl (by omega) dX10_word_191 ?_
                            refine r_as (y := (nI (WA i2))) ((hwa i2 (by omega))) ?_
                            refine lv_iload_n hxe hcd dX10_word_192 rfl (lv_at hl 1 rfl) ?_
                            refine n_iadd S (a := (WA i2)) (b := (k + 1)) dX10_word_193 ?_
                            refine lv_aload_n hxe hcd dX10_word_194 rfl (lv_at hl 0 rfl) ?_
                            refine gf_X10_50 S hW dX10_word_195 ?_
                            refine lv_iload hxe hcd dX10_word_198 (lv_at hl 3 rfl) ?_
                            refine lv_iconst (v := (nI 1)) hxe hcd dX10_word_200 (by decide) ?_
                            refine n_iadd S (a := i2) (b := 1) dX10_word_201 ?_
                            refine gm_ald S hW (i := 12) (k := (i2 + 1)) (n := 13) (by decide) (by decide) rfl (by omega) dX10_word_202 ?_
                            refine r_as (y := (nI (WA (i2 + 1)))) ((hwa (i2 + 1) (by omega))) ?_
                            refine n_ne S (a := ((WA i2) + (k + 1))) (b := (WA (i2 + 1))) (by omega) (by omega) dX10_word_203 (tgt := 211) (by decide) (fun c203 => ?_) (fun c203 => ?_)
                            · refine lv_iload_n hxe hcd dX10_word_211 rfl (lv_at hl 2 rfl) ?_
                              refine lv_istore_n (lv' := [(2, .int (oI (fnd (QW t n pp k) i2))), (0, .ref (B 0)), (1, .int (nI (k + 1))), (4, .int (nI i2))]) hxe hcd dX10_word_212 rfl hl (by decide) rfl (fun ls hl => ?_)
                              refine lv_iinc (v := (nI (i2 + 1))) (lv' := [(4, .int (nI (i2 + 1))), (2, .int (oI (fnd (QW t n pp k) i2))), (0, .ref (B 0)), (1, .int (nI (k + 1)))]) hxe hcd dX10_word_213 hl (k := 3) rfl (nI_add i2 1) (by decide) rfl (fun ls hl => ?_)
                              refine lv_goto (tgt := 167) hxe hcd dX10_word_216 (by decide) ?_
                              have hl : lv_has ls 5 [(4, .int (nI (i2 + 1))), (2, .int (oI (fnd (QW t n pp k) (i2 + 1)))), (0, .ref (B 0)), (1, .int (nI (k + 1)))] := by
                                rw [fnd_n (fun h => c203 h.2)]
                                exact lv_sub hl [0, 1, 2, 3] rfl
                              exact ih167 (i2 + 1) (by omega) (by omega) _ _ _ hW (lv_sub hl [2, 3, 1, 0] rfl)
                            · refine lv_iload hxe hcd dX10_word_206 (lv_at hl 3 rfl) ?_
                              refine lv_goto (tgt := 212) hxe hcd dX10_word_208 (by decide) ?_
                              refine lv_istore_n (lv' := [(2, .int (nI i2)), (0, .ref (B 0)), (1, .int (nI (k + 1))), (4, .int (nI i2))]) hxe hcd dX10_word_212 rfl hl (by decide) rfl (fun ls hl => ?_)
                              refine lv_iinc (v := (nI (i2 + 1))) (lv' := [(4, .int (nI (i2 + 1))), (2, .int (nI i2)), (0, .ref (B 0)), (1, .int (nI (k + 1)))]) hxe hcd dX10_word_213 hl (k := 3) rfl (nI_add i2 1) (by decide) rfl (fun ls hl => ?_)
                              refine lv_goto (tgt := 167) hxe hcd dX10_word_216 (by decide) ?_
                              have hl : lv_has ls 5 [(4, .int (nI (i2 + 1))), (2, .int (oI (fnd (QW t n pp k) (i2 + 1)))), (0, .ref (B 0)), (1, .int (nI (k + 1)))] := by
                                rw [fnd_y ⟨b2_1.mp c182, c203⟩]
                                rw [oI_some]
                                exact lv_sub hl [0, 1, 2, 3] rfl
                              exact ih167 (i2 + 1) (by omega) (by omega) _ _ _ hW (lv_sub hl [2, 3, 1, 0] rfl)
                    exact loop167 (12 + 1) 0 (Nat.lt_succ_self _) (Nat.zero_le _) _ _ _ (by rw [PL_w, PL_p] at hW; have h9 := wX_row (i := 10) (f := fun w => b2 (PW t n pp w (k + 1))) hW (by decide) (fun j hj => by rw [PL_r, lfR, if_pos (by have : j < 12 := hj; omega)]); rw [PL_f] at h9; exact h9) (lv_sub hl [2, 1, 3, 0] rfl)
                  · rw [b2_f hM0] at hl
                    have hM := hM0
                    rw [e12] at hM
                    refine lv_aload_n hxe hcd dX10_word_130 rfl (lv_at hl 0 rfl) ?_
                    refine lv_iload_n hxe hcd dX10_word_131 rfl (lv_at hl 3 rfl) ?_
                    refine lv_if_ne (tgt := 139) hxe hcd dX10_word_132 (by decide) (fun h => absurd h (by decide)) (fun _ => ?_)
                    refine lv_iconst (v := (nI 1)) hxe hcd dX10_word_135 (by decide) ?_
                    refine lv_goto (tgt := 140) hxe hcd dX10_word_136 (by decide) ?_
                    refine gp_X10_186 S hW (by decide +kernel) (by decide +kernel) dX10_word_140 (fun H locs hW => ?_)
                    refine lv_aload_n hxe hcd dX10_word_143 rfl (lv_at hl 0 rfl) ?_
                    refine lv_dup hxe hcd dX10_word_144 rfl ?_
                    refine gf_X10_180 S hW dX10_word_145 ?_
                    refine r_as (y := (nI (pp + k))) (by rw [up1_s, upd_o (by decide)]; exact PL_h _ _ _ _) ?_
                    refine lv_iload_n hxe hcd dX10_word_148 rfl (lv_at hl 3 rfl) ?_
                    refine lv_if_eq (tgt := 156) hxe hcd dX10_word_149 (by decide) (fun _ => ?_) (fun h => absurd (by decide) h)
                    refine lv_iconst (v := (nI 0)) hxe hcd dX10_word_156 (by decide) ?_
                    refine n_iadd S (a := (pp + k)) (b := 0) dX10_word_157 ?_
                    refine gp_X10_180 S hW dX10_word_158 (fun H locs hW => ?_)
                    refine lv_iinc (v := (nI (k + 1))) (lv' := [(1, .int (nI (k + 1))), (0, .ref (B 0)), (2, .int (-1)), (3, .int (nI 0)), (4, .int (nI i))]) hxe hcd dX10_word_161 hl (k := 1) rfl (nI_add k 1) (by decide) rfl (fun ls hl => ?_)
                    refine lv_iconst (v := (nI 0)) hxe hcd dX10_word_164 (by decide) ?_
                    refine lv_istore (lv' := [(4, .int (nI 0)), (1, .int (nI (k + 1))), (0, .ref (B 0)), (2, .int (-1)), (3, .int (nI 0))]) hxe hcd dX10_word_165 hl (by decide) rfl (fun ls hl => ?_)
                    have loop167 : ∀ (n_ : Nat) (i2 : Nat), 12 - i2 < n_ → (i2 ≤ 12) → ∀ (H : Heap) (locs : List Loc) (ls : Array Slot), wX Z mds B (mE Z B (PL ν (pp + k) 1 (fun w => b2 (PW t n pp w (k + 1))))) (fA mds B (mE Z B ν) s.heap.size) s H locs → lv_has ls 5 [(0, .ref (B 0)), (1, .int (nI (k + 1))), (2, .int (oI (fnd (QW t n pp k) i2))), (4, .int (nI i2))] → W p l e (rmD 1 0 0) s m ([.ref (B 0)] : List Value).toArray below meth c H locs 0 0 (MQ below (va_Qi (fun r u => ∃ f : Nat → Int32, (∃ w, WOK t n pp w ∧ r = nI w ∧ u = PL ν (pp + wl w) 0 f) ∨ (∃ k, WNO t n pp k ∧ r = -1 ∧ u = PL ν (pp + k) 1 f)) (fun u t => qB Z mds B ((mE Z B) u) (fA mds B (mE Z B ν) s.heap.size) t) (fA mds B (mE Z B ν) s.heap.size)) ([.ref (B 0)] : List Value).toArray s 0 0 (fA mds B (mE Z B ν) s.heap.size)) (F0 m 167 ls []) := by
                      intro n_
                      induction n_ with
                      | zero => intro i2 hm; exact absurd hm (Nat.not_lt_zero _)
                      | succ n_ ih167 =>
                        intro i2 hm hi2 H locs ls hW hl
                        refine lv_iload hxe hcd dX10_word_167 (lv_at hl 3 rfl) ?_
                        refine lv_bipush (v := (nI 12)) hxe hcd dX10_word_169 (by decide) ?_
                        refine n_ge S (a := i2) (b := 12) (by omega) (by omega) dX10_word_171 (tgt := 219) (by decide) (fun c171 => ?_) (fun c171 => ?_)
                        · have e122 : i2 = 12 := by omega
                          subst e122
                          rcases hF : fnd (QW t n pp k) 12 with _ | wf
                          · rw [hF, oI_none] at hl
                            have hQ := fnd_none hF
                            refine lv_goto (tgt := 25) hxe hcd dX10_word_219 (by decide) ?_
                            refine lv_iload_n hxe hcd dX10_word_25 rfl (lv_at hl 2 rfl) ?_
                            refine lv_if_ge (tgt := 222) hxe hcd dX10_word_26 (by decide) (fun h => absurd h (by decide)) (fun _ => ?_)
                            refine lv_aload_n hxe hcd dX10_word_29 rfl (lv_at hl 0 rfl) ?_
                            refine gf_X10_186 S hW dX10_word_30 ?_
                            refine r_as (y := (nI 1)) ((PL_x _ _ _ _)) ?_
                            refine lv_if_ne (tgt := 222) hxe hcd dX10_word_33 (by decide) (fun _ => ?_) (fun h => absurd h (by decide))
                            refine lv_iload_n hxe hcd dX10_word_222 rfl (lv_at hl 2 rfl) ?_
                            refine r_iret S hr hlk (F := (mE Z B)) (u := (PL ν (pp + k) 1 (fun w => b2 (PW t n pp w (k + 1))))) hW ?_ dX10_word_223
                            exact ⟨_, Or.inr ⟨k, WNO_of hno hs hM, rfl, rfl⟩⟩
                          · rw [hF, oI_some] at hl
                            have hq := fnd_some hF
                            have hok := QW_ok hq.1 hq.2
                            refine lv_goto (tgt := 25) hxe hcd dX10_word_219 (by decide) ?_
                            exact absurd ⟨wf, hq.1, hq.2.1⟩ hM
                        · have hwai := WA_12 (show i2 < 12 by omega)
                          refine lv_aload_n hxe hcd dX10_word_174 rfl (lv_at hl 0 rfl) ?_
                          refine gf_X10_44 S hW dX10_word_175 ?_
                          refine lv_iload hxe hcd dX10_word_178 (lv_at hl 3 rfl) ?_
                          refine gm_ald S hW (i := 10) (k := i2) (n := 12) (by decide) (by decide) rfl (by omega) dX10_word_180 ?_
                          refine r_as (y := (b2 (PW t n pp i2 (k + 1)))) (rfl) ?_
                          refine lv_iconst (v := (nI 1)) hxe hcd dX10_word_181 (by decide) ?_
                          refine lv_icmp_ne (tgt := 211) hxe hcd dX10_word_182 (by decide) (fun c182 => ?_) (fun c182 => ?_)
                          · refine lv_iload_n hxe hcd dX10_word_211 rfl (lv_at hl 2 rfl) ?_
                            refine lv_istore_n (lv' := [(2, .int (oI (fnd (QW t n pp k) i2))), (0, .ref (B 0)), (1, .int (nI (k + 1))), (4, .int (nI i2))]) hxe hcd dX10_word_212 rfl hl (by decide) rfl (fun ls hl => ?_)
                            refine lv_iinc (v := (nI (i2 + 1))) (lv' := [(4, .int (nI (i2 + 1))), (2, .int (oI (fnd (QW t n pp k) i2))), (0, .ref (B 0)), (1, .int (nI (k + 1)))]) hxe hcd dX10_word_213 hl (k := 3) rfl (nI_add i2 1) (by decide) rfl (fun ls hl => ?_)
                            refine lv_goto (tgt := 167) hxe hcd dX10_word_216 (by decide) ?_
                            have hl : lv_has ls 5 [(4, .int (nI (i2 + 1))), (2, .int (oI (fnd (QW t n pp k) (i2 + 1)))), (0, .ref (B 0)), (1, .int (nI (k + 1)))] := by
                              rw [fnd_n (fun h => c182 (b2_1.mpr h.1))]
                              exact lv_sub hl [0, 1, 2, 3] rfl
                            exact ih167 (i2 + 1) (by omega) (by omega) _ _ _ hW (lv_sub hl [2, 3, 1, 0] rfl)
                          · refine lv_aload_n hxe hcd dX10_word_185 rfl (lv_at hl 0 rfl) ?_
                            refine gf_X10_50 S hW dX10_word_186 ?_
                            refine lv_iload hxe hcd dX10_word_189 (lv_at hl 3 rfl) ?_
                            refine gm_ald S hW (i := 12) (k := i2) (n := 13) (by decide) (by decide) rfl (by omega) dX10_word_191 ?_
                            refine r_as (y := (nI (WA i2))) ((hwa i2 (by omega))) ?_
                            refine lv_iload_n hxe hcd dX10_word_192 rfl (lv_at hl 1 rfl) ?_
                            refine n_iadd S (a := (WA i2)) (b := (k + 1)) dX10_word_193 ?_
                            refine lv_aload_n hxe hcd dX10_word_194 rfl (lv_at hl 0 rfl) ?_
                            refine gf_X10_50 S hW dX10_word_195 ?_
                            refine lv_iload hxe hcd dX10_word_198 (lv_at hl 3 rfl) ?_
                            refine lv_iconst (v := (nI 1)) hxe hcd dX10_word_200 (by decide) ?_
                            refine n_iadd S (a := i2) (b := 1) dX10_word_201 ?_
                            refine gm_ald S hW (i := 12) (k := (i2 + 1)) (n := 13) (by decide) (by decide) rfl (by omega) dX10_word_202 ?_
                            refine r_as (y := (nI (WA (i2 + 1)))) ((hwa (i2 + 1) (by omega))) ?_
                            refine n_ne S (a := ((WA i2) + (k + 1))) (b := (WA (i2 + 1))) (by omega) (by omega) dX10_word_203 (tgt := 211) (by decide) (fun c203 => ?_) (fun c203 => ?_)
                            · refine lv_iload_n hxe hcd dX10_word_211 rfl (lv_at hl 2 rfl) ?_
                              refine lv_istore_n (lv' := [(2, .int (oI (fnd (QW t n pp k) i2))), (0, .ref (B 0)), (1, .int (nI (k + 1))), (4, .int (nI i2))]) hxe hcd dX10_word_212 rfl hl (by decide) rfl (fun ls hl => ?_)
                              refine lv_iinc (v := (nI (i2 + 1))) (lv' := [(4, .int (nI (i2 + 1))), (2, .int (oI (fnd (QW t n pp k) i2))), (0, .ref (B 0)), (1, .int (nI (k + 1)))]) hxe hcd dX10_word_213 hl (k := 3) rfl (nI_add i2 1) (by decide) rfl (fun ls hl => ?_)
                              refine lv_goto (tgt := 167) hxe hcd dX10_word_216 (by decide) ?_
                              have hl : lv_has ls 5 [(4, .int (nI (i2 + 1))), (2, .int (oI (fnd (QW t n pp k) (i2 + 1)))), (0, .ref (B 0)), (1, .int (nI (k + 1)))] := by
                                rw [fnd_n (fun h => c203 h.2)]
                                exact lv_sub hl [0, 1, 2, 3] rfl
                              exact ih167 (i2 + 1) (by omega) (by omega) _ _ _ hW (lv_sub hl [2, 3, 1, 0] rfl)
                            · refine lv_iload hxe hcd dX10_word_206 (lv_at hl 3 rfl) ?_
                              refine lv_goto (tgt := 212) hxe hcd dX10_word_208 (by decide) ?_
                              refine lv_istore_n (lv' := [(2, .int (nI i2)), (0, .ref (B 0)), (1, .int (nI (k + 1))), (4, .int (nI i2))]) hxe hcd dX10_word_212 rfl hl (by decide) rfl (fun ls hl => ?_)
                              refine lv_iinc (v := (nI (i2 + 1))) (lv' := [(4, .int (nI (i2 + 1))), (2, .int (nI i2)), (0, .ref (B 0)), (1, .int (nI (k + 1)))]) hxe hcd dX10_word_213 hl (k := 3) rfl (nI_add i2 1) (by decide) rfl (fun ls hl => ?_)
                              refine lv_goto (tgt := 167) hxe hcd dX10_word_216 (by decide) ?_
                              have hl : lv_has ls 5 [(4, .int (nI (i2 + 1))), (2, .int (oI (fnd (QW t n pp k) (i2 + 1)))), (0, .ref (B 0)), (1, .int (nI (k + 1)))] := by
                                rw [fnd_y ⟨b2_1.mp c182, c203⟩]
                                rw [oI_some]
                                exact lv_sub hl [0, 1, 2, 3] rfl
                              exact ih167 (i2 + 1) (by omega) (by omega) _ _ _ hW (lv_sub hl [2, 3, 1, 0] rfl)
                    exact loop167 (12 + 1) 0 (Nat.lt_succ_self _) (Nat.zero_le _) _ _ _ (by rw [PL_w, PL_p] at hW; have h9 := wX_row (i := 10) (f := fun w => b2 (PW t n pp w (k + 1))) hW (by decide) (fun j hj => by rw [PL_r, lfR, if_pos (by have : j < 12 := hj; omega)]); rw [PL_f] at h9; exact h9) (lv_sub hl [2, 1, 3, 0] rfl)
                · have hi12 : i < 12 := by omega
                  have hwai := WA_12 hi12
                  refine lv_aload_n hxe hcd dX10_word_48 rfl (lv_at hl 0 rfl) ?_
                  refine gf_X10_44 S hW dX10_word_49 ?_
                  refine lv_iload hxe hcd dX10_word_52 (lv_at hl 4 rfl) ?_
                  refine lv_dup2_11 hxe hcd dX10_word_54 rfl rfl ?_
                  refine gm_ald S hW (i := 10) (k := i) (n := 12) (by decide) (by decide) rfl (by omega) dX10_word_55 ?_
                  refine r_as (y := (b2 (PW t n pp i k))) (by rw [PL_r, lfR_i]) ?_
                  refine lv_aload_n hxe hcd dX10_word_56 rfl (lv_at hl 0 rfl) ?_
                  refine gf_X10_50 S hW dX10_word_57 ?_
                  refine lv_iload hxe hcd dX10_word_60 (lv_at hl 4 rfl) ?_
                  refine gm_ald S hW (i := 12) (k := i) (n := 13) (by decide) (by decide) rfl (by omega) dX10_word_62 ?_
                  refine r_as (y := (nI (WA i))) ((hwa i (by omega))) ?_
                  refine lv_iload_n hxe hcd dX10_word_63 rfl (lv_at hl 1 rfl) ?_
                  refine n_iadd S (a := (WA i)) (b := k) dX10_word_64 ?_
                  refine lv_aload_n hxe hcd dX10_word_65 rfl (lv_at hl 0 rfl) ?_
                  refine gf_X10_50 S hW dX10_word_66 ?_
                  refine lv_iload hxe hcd dX10_word_69 (lv_at hl 4 rfl) ?_
                  refine lv_iconst (v := (nI 1)) hxe hcd dX10_word_71 (by decide) ?_
                  refine n_iadd S (a := i) (b := 1) dX10_word_72 ?_
                  refine gm_ald S hW (i := 12) (k := (i + 1)) (n := 13) (by decide) (by decide) rfl (by omega) dX10_word_73 ?_
                  refine r_as (y := (nI (WA (i + 1)))) ((hwa (i + 1) (by omega))) ?_
                  refine n_ge S (a := ((WA i) + k)) (b := (WA (i + 1))) (by omega) (by omega) dX10_word_74 (tgt := 102) (by decide) (fun c74 => ?_) (fun c74 => ?_)
                  · refine lv_iconst (v := (nI 0)) hxe hcd dX10_word_102 (by decide) ?_
                    refine lv_iand hxe hcd dX10_word_103 ?_
                    refine r_as (y := (b2 (PW t n pp i (k + 1)))) (wand_l hi12 (by omega)) ?_
                    refine gm_ast S hW (i := 10) (k := i) (n := 12) (by decide) (by decide) rfl (by omega) dX10_word_104 (fun H locs hW => ?_)
                    refine lv_iload_n hxe hcd dX10_word_105 rfl (lv_at hl 3 rfl) ?_
                    refine lv_aload_n hxe hcd dX10_word_106 rfl (lv_at hl 0 rfl) ?_
                    refine gf_X10_44 S hW dX10_word_107 ?_
                    refine lv_iload hxe hcd dX10_word_110 (lv_at hl 4 rfl) ?_
                    refine gm_ald S hW (i := 10) (k := i) (n := 12) (by decide) (by decide) rfl (by omega) dX10_word_112 ?_
                    refine r_as (y := (b2 (PW t n pp i (k + 1)))) (by rw [up1_s, upd_s]) ?_
                    refine lv_iconst (v := (nI 1)) hxe hcd dX10_word_113 (by decide) ?_
                    refine lv_icmp_ne (tgt := 121) hxe hcd dX10_word_114 (by decide) (fun c114 => ?_) (fun c114 => ?_)
                    · refine lv_iconst (v := (nI 0)) hxe hcd dX10_word_121 (by decide) ?_
                      refine lv_ior hxe hcd dX10_word_122 ?_
                      refine r_as (y := (b2 (∃ w, w < i + 1 ∧ PW t n pp w (k + 1)))) (wor_0 c114) ?_
                      refine lv_istore_n (lv' := [(3, .int (b2 (∃ w, w < i + 1 ∧ PW t n pp w (k + 1)))), (0, .ref (B 0)), (1, .int (nI k)), (2, .int (-1)), (4, .int (nI i))]) hxe hcd dX10_word_123 rfl hl (by decide) rfl (fun ls hl => ?_)
                      refine lv_iinc (v := (nI (i + 1))) (lv' := [(4, .int (nI (i + 1))), (3, .int (b2 (∃ w, w < i + 1 ∧ PW t n pp w (k + 1)))), (0, .ref (B 0)), (1, .int (nI k)), (2, .int (-1))]) hxe hcd dX10_word_124 hl (k := 4) rfl (nI_add i 1) (by decide) rfl (fun ls hl => ?_)
                      refine lv_goto (tgt := 41) hxe hcd dX10_word_127 (by decide) ?_
                      exact ih41 (i + 1) (by omega) (by omega) _ _ _ (by rw [PL_r, PL_f, lfR_s] at hW; exact hW) (lv_sub hl [2, 3, 4, 1, 0] rfl)
                    · refine lv_iconst (v := (nI 1)) hxe hcd dX10_word_117 (by decide) ?_
                      refine lv_goto (tgt := 122) hxe hcd dX10_word_118 (by decide) ?_
                      refine lv_ior hxe hcd dX10_word_122 ?_
                      refine r_as (y := (b2 (∃ w, w < i + 1 ∧ PW t n pp w (k + 1)))) (wor_1 c114) ?_
                      refine lv_istore_n (lv' := [(3, .int (b2 (∃ w, w < i + 1 ∧ PW t n pp w (k + 1)))), (0, .ref (B 0)), (1, .int (nI k)), (2, .int (-1)), (4, .int (nI i))]) hxe hcd dX10_word_123 rfl hl (by decide) rfl (fun ls hl => ?_)
                      refine lv_iinc (v := (nI (i + 1))) (lv' := [(4, .int (nI (i + 1))), (3, .int (b2 (∃ w, w < i + 1 ∧ PW t n pp w (k + 1)))), (0, .ref (B 0)), (1, .int (nI k)), (2, .int (-1))]) hxe hcd dX10_word_124 hl (k := 4) rfl (nI_add i 1) (by decide) rfl (fun ls hl => ?_)
                      refine lv_goto (tgt := 41) hxe hcd dX10_word_127 (by decide) ?_
                      exact ih41 (i + 1) (by omega) (by omega) _ _ _ (by rw [PL_r, PL_f, lfR_s] at hW; exact hW) (lv_sub hl [2, 3, 4, 1, 0] rfl)
                  · refine lv_aload_n hxe hcd dX10_word_77 rfl (lv_at hl 0 rfl) ?_
                    refine gf_X10_47 S hW dX10_word_78 ?_
                    refine lv_aload_n hxe hcd dX10_word_81 rfl (lv_at hl 0 rfl) ?_
                    refine gf_X10_50 S hW dX10_word_82 ?_
                    refine lv_iload hxe hcd dX10_word_85 (lv_at hl 4 rfl) ?_
                    refine gm_ald S hW (i := 12) (k := i) (n := 13) (by decide) (by decide) rfl (by omega) dX10_word_87 ?_
                    refine r_as (y := (nI (WA i))) ((hwa i (by omega))) ?_
                    refine lv_iload_n hxe hcd dX10_word_88 rfl (lv_at hl 1 rfl) ?_
                    refine n_iadd S (a := (WA i)) (b := k) dX10_word_89 ?_
                    refine gm_ald S hW (i := 11) (k := ((WA i) + k)) (n := 63) (by decide) (by decide) rfl (by omega) dX10_word_90 ?_
                    refine r_as (y := (nI (WD (WA i + k)))) ((hwd _ (by omega))) ?_
                    refine lv_aload_n hxe hcd dX10_word_91 rfl (lv_at hl 0 rfl) ?_
                    refine r_calli0 (r_runV hZ S hW (As := []) (rest := [.int (nI (WD (WA i + k))), .int (b2 (PW t n pp i k)), .int (nI i), .ref (B 10)]) (t_X10_sign l hZ B (PL ν (pp + k) 0 (lfR t n pp k i)) H.size (pp := (pp + k)) (PL_h _ _ _ _) hen hn60 t htx (by omega)) k_X10_190 (r_recv hW (x := 0) (List.mem_range.mpr (by decide)) rfl rfl) (hl.1) rfl rfl (Nat.le_of_ble_eq_true rfl) ⟨Nat.le_of_ble_eq_true rfl, Nat.le_of_ble_eq_true rfl⟩ ⟨Nat.le_of_ble_eq_true rfl, Nat.le_of_ble_eq_true rfl⟩ dX10_word_92) hW (fun r92 H locs hp92 hW => ?_)
                    have hp92 := hp92.symm
                    subst hp92
                    refine lv_icmp_ne (tgt := 102) hxe hcd dX10_word_95 (by decide) (fun c95 => ?_) (fun c95 => ?_)
                    · refine lv_iconst (v := (nI 0)) hxe hcd dX10_word_102 (by decide) ?_
                      refine lv_iand hxe hcd dX10_word_103 ?_
                      refine r_as (y := (b2 (PW t n pp i (k + 1)))) (wand_c c95) ?_
                      refine gm_ast S hW (i := 10) (k := i) (n := 12) (by decide) (by decide) rfl (by omega) dX10_word_104 (fun H locs hW => ?_)
                      refine lv_iload_n hxe hcd dX10_word_105 rfl (lv_at hl 3 rfl) ?_
                      refine lv_aload_n hxe hcd dX10_word_106 rfl (lv_at hl 0 rfl) ?_
                      refine gf_X10_44 S hW dX10_word_107 ?_
                      refine lv_iload hxe hcd dX10_word_110 (lv_at hl 4 rfl) ?_
                      refine gm_ald S hW (i := 10) (k := i) (n := 12) (by decide) (by decide) rfl (by omega) dX10_word_112 ?_
                      refine r_as (y := (b2 (PW t n pp i (k + 1)))) (by rw [up1_s, upd_s]) ?_
                      refine lv_iconst (v := (nI 1)) hxe hcd dX10_word_113 (by decide) ?_
                      refine lv_icmp_ne (tgt := 121) hxe hcd dX10_word_114 (by decide) (fun c114 => ?_) (fun c114 => ?_)
                      · refine lv_iconst (v := (nI 0)) hxe hcd dX10_word_121 (by decide) ?_
                        refine lv_ior hxe hcd dX10_word_122 ?_
                        refine r_as (y := (b2 (∃ w, w < i + 1 ∧ PW t n pp w (k + 1)))) (wor_0 c114) ?_
                        refine lv_istore_n (lv' := [(3, .int (b2 (∃ w, w < i + 1 ∧ PW t n pp w (k + 1)))), (0, .ref (B 0)), (1, .int (nI k)), (2, .int (-1)), (4, .int (nI i))]) hxe hcd dX10_word_123 rfl hl (by decide) rfl (fun ls hl => ?_)
                        refine lv_iinc (v := (nI (i + 1))) (lv' := [(4, .int (nI (i + 1))), (3, .int (b2 (∃ w, w < i + 1 ∧ PW t n pp w (k + 1)))), (0, .ref (B 0)), (1, .int (nI k)), (2, .int (-1))]) hxe hcd dX10_word_124 hl (k := 4) rfl (nI_add i 1) (by decide) rfl (fun ls hl => ?_)
                        refine lv_goto (tgt := 41) hxe hcd dX10_word_127 (by decide) ?_
                        exact ih41 (i + 1) (by omega) (by omega) _ _ _ (by rw [PL_r, PL_f, lfR_s] at hW; exact hW) (lv_sub hl [2, 3, 4, 1, 0] rfl)
                      · refine lv_iconst (v := (nI 1)) hxe hcd dX10_word_117 (by decide) ?_
                        refine lv_goto (tgt := 122) hxe hcd dX10_word_118 (by decide) ?_
                        refine lv_ior hxe hcd dX10_word_122 ?_
                        refine r_as (y := (b2 (∃ w, w < i + 1 ∧ PW t n pp w (k + 1)))) (wor_1 c114) ?_
                        refine lv_istore_n (lv' := [(3, .int (b2 (∃ w, w < i + 1 ∧ PW t n pp w (k + 1)))), (0, .ref (B 0)), (1, .int (nI k)), (2, .int (-1)), (4, .int (nI i))]) hxe hcd dX10_word_123 rfl hl (by decide) rfl (fun ls hl => ?_)
                        refine lv_iinc (v := (nI (i + 1))) (lv' := [(4, .int (nI (i + 1))), (3, .int (b2 (∃ w, w < i + 1 ∧ PW t n pp w (k + 1)))), (0, .ref (B 0)), (1, .int (nI k)), (2, .int (-1))]) hxe hcd dX10_word_124 hl (k := 4) rfl (nI_add i 1) (by decide) rfl (fun ls hl => ?_)
                        refine lv_goto (tgt := 41) hxe hcd dX10_word_127 (by decide) ?_
                        exact ih41 (i + 1) (by omega) (by omega) _ _ _ (by rw [PL_r, PL_f, lfR_s] at hW; exact hW) (lv_sub hl [2, 3, 4, 1, 0] rfl)
                    · refine lv_iconst (v := (nI 1)) hxe hcd dX10_word_98 (by decide) ?_
                      refine lv_goto (tgt := 103) hxe hcd dX10_word_99 (by decide) ?_
                      refine lv_iand hxe hcd dX10_word_103 ?_
                      refine r_as (y := (b2 (PW t n pp i (k + 1)))) (wand_1 hi12 (by omega) c95) ?_
                      refine gm_ast S hW (i := 10) (k := i) (n := 12) (by decide) (by decide) rfl (by omega) dX10_word_104 (fun H locs hW => ?_)
                      refine lv_iload_n hxe hcd dX10_word_105 rfl (lv_at hl 3 rfl) ?_
                      refine lv_aload_n hxe hcd dX10_word_106 rfl (lv_at hl 0 rfl) ?_
                      refine gf_X10_44 S hW dX10_word_107 ?_
                      refine lv_iload hxe hcd dX10_word_110 (lv_at hl 4 rfl) ?_
                      refine gm_ald S hW (i := 10) (k := i) (n := 12) (by decide) (by decide) rfl (by omega) dX10_word_112 ?_
                      refine r_as (y := (b2 (PW t n pp i (k + 1)))) (by rw [up1_s, upd_s]) ?_
                      refine lv_iconst (v := (nI 1)) hxe hcd dX10_word_113 (by decide) ?_
                      refine lv_icmp_ne (tgt := 121) hxe hcd dX10_word_114 (by decide) (fun c114 => ?_) (fun c114 => ?_)
                      · refine lv_iconst (v := (nI 0)) hxe hcd dX10_word_121 (by decide) ?_
                        refine lv_ior hxe hcd dX10_word_122 ?_
                        refine r_as (y := (b2 (∃ w, w < i + 1 ∧ PW t n pp w (k + 1)))) (wor_0 c114) ?_
                        refine lv_istore_n (lv' := [(3, .int (b2 (∃ w, w < i + 1 ∧ PW t n pp w (k + 1)))), (0, .ref (B 0)), (1, .int (nI k)), (2, .int (-1)), (4, .int (nI i))]) hxe hcd dX10_word_123 rfl hl (by decide) rfl (fun ls hl => ?_)
                        refine lv_iinc (v := (nI (i + 1))) (lv' := [(4, .int (nI (i + 1))), (3, .int (b2 (∃ w, w < i + 1 ∧ PW t n pp w (k + 1)))), (0, .ref (B 0)), (1, .int (nI k)), (2, .int (-1))]) hxe hcd dX10_word_124 hl (k := 4) rfl (nI_add i 1) (by decide) rfl (fun ls hl => ?_)
                        refine lv_goto (tgt := 41) hxe hcd dX10_word_127 (by decide) ?_
                        exact ih41 (i + 1) (by omega) (by omega) _ _ _ (by rw [PL_r, PL_f, lfR_s] at hW; exact hW) (lv_sub hl [2, 3, 4, 1, 0] rfl)
                      · refine lv_iconst (v := (nI 1)) hxe hcd dX10_word_117 (by decide) ?_
                        refine lv_goto (tgt := 122) hxe hcd dX10_word_118 (by decide) ?_
                        refine lv_ior hxe hcd dX10_word_122 ?_
                        refine r_as (y := (b2 (∃ w, w < i + 1 ∧ PW t n pp w (k + 1)))) (wor_1 c114) ?_
                        refine lv_istore_n (lv' := [(3, .int (b2 (∃ w, w < i + 1 ∧ PW t n pp w (k + 1)))), (0, .ref (B 0)), (1, .int (nI k)), (2, .int (-1)), (4, .int (nI i))]) hxe hcd dX10_word_123 rfl hl (by decide) rfl (fun ls hl => ?_)
                        refine lv_iinc (v := (nI (i + 1))) (lv' := [(4, .int (nI (i + 1))), (3, .int (b2 (∃ w, w < i + 1 ∧ PW t n pp w (k + 1)))), (0, .ref (B 0)), (1, .int (nI k)), (2, .int (-1))]) hxe hcd dX10_word_124 hl (k := 4) rfl (nI_add i 1) (by decide) rfl (fun ls hl => ?_)
                        refine lv_goto (tgt := 41) hxe hcd dX10_word_127 (by decide) ?_
                        exact ih41 (i + 1) (by omega) (by omega) _ _ _ (by rw [PL_r, PL_f, lfR_s] at hW; exact hW) (lv_sub hl [2, 3, 4, 1, 0] rfl)
            exact loop41 (12 + 1) 0 (Nat.lt_succ_self _) (Nat.zero_le _) _ _ _ (by rw [lfR_0]; exact hW) (lv_sub hl [2, 3, 4, 1, 0] rfl)
        exact loop25 ((8 - 0) + 1) 0 (Nat.lt_succ_self _) (Nat.zero_le _) (fun w hw h => by have := WA_12 hw; omega) ⟨0, by decide, PW_0 _ _ _ _⟩ _ _ _ (by rw [PL_id (p := pp + 0) hpp hx0]; have h9 := wX_row (i := 10) (f := fun w => b2 (PW t n pp w 0)) hW (by decide) (fun j hj => by rw [up1_s, cpR, if_pos (by have : j < 12 := hj; omega), b2_t (PW_0 _ _ _ _)]); rw [up1_2] at h9; exact h9) (lv_sub hl [2, 1, 0] rfl)
      · refine lv_aload_n hxe hcd dX10_word_8 rfl (lv_at hl 0 rfl) ?_
        refine gf_X10_44 S hW dX10_word_9 ?_
        refine lv_iload_n hxe hcd dX10_word_12 rfl (lv_at hl 1 rfl) ?_
        refine lv_iconst (v := (nI 1)) hxe hcd dX10_word_13 (by decide) ?_
        refine gm_ast S hW (i := 10) (k := i) (n := 12) (by decide) (by decide) rfl (by omega) dX10_word_14 (fun H locs hW => ?_)
        refine lv_iinc (v := (nI (i + 1))) (lv' := [(1, .int (nI (i + 1))), (0, .ref (B 0))]) hxe hcd dX10_word_15 hl (k := 1) rfl (nI_add i 1) (by decide) rfl (fun ls hl => ?_)
        refine lv_goto (tgt := 2) hxe hcd dX10_word_18 (by decide) ?_
        exact ih2 (i + 1) (by omega) (by omega) _ _ _ (by rw [up1_s, up1_2] at hW; rw [← cpR_step (fun _ => nI 1)]; exact hW) (lv_sub hl [1, 0] rfl)
  exact loop2 (12 + 1) 0 (Nat.lt_succ_self _) (Nat.zero_le _) _ _ _ (by rw [cpR_0, up1_id]; exact hW) (lv_sub hl [1, 0] rfl)
