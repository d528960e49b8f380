set_option maxHeartbeats 4000000 in
set_option maxRecDepth 100000 in
theorem t_X1_takeSign (l : Launch) {Z : ZT} (hZ : zOK Z) (A : Nat × Nat → Nat) (g : Nat → Bool) (μ : CM) (sz : Nat) {n : Nat} (hen : μ 0 22 1 = nI n) (hn60 : n ≤ 60) (t : Nat → Nat) (htx : ∀ j, j < n → μ 0 23 j = nI (t j) ∧ t j < 128) {pp : Nat} (hpp : μ 0 22 5 = nI pp) (hpn : pp ≤ n) (x : Int32) : XMi l yX1_takeSign cX1_takeSign 2 (some .boolean) 3 [.ref (A (0, 22)), .int x] Z (ids g) A (cE Z A g) μ sz (fun r u => (chT t n pp = x ∧ r = nI 1 ∧ u = CQ μ (pp + 1)) ∨ (¬ chT t n pp = x ∧ r = nI 0 ∧ u = μ)) := by
  refine r_met (E := (cE Z A g μ)) (by decide +kernel) (Nat.le_of_ble_eq_true rfl) ?_
  intro p e s m below meth c ls S hr hlk hnm hsz hW hl
  have hxe := S.1
  have hcd := S.2.1
  subst hsz
  have hl : lv_has ls 2 [(0, .ref (A (0, 22))), (1, .int x)] := hl
  refine lv_aload_n hxe hcd dX1_takeSign_0 rfl (lv_at hl 0 rfl) ?_
  refine lv_aload_n hxe hcd dX1_takeSign_1 rfl (lv_at hl 0 rfl) ?_
  refine gf_X1_28 S hW dX1_takeSign_2 ?_
  refine r_as (y := (nI pp)) (hpp) ?_
  refine r_calli0 (r_runV hZ S hW (As := [.int (nI pp)]) (rest := []) (t_X1_characterAt l hZ A g μ s.heap.size hen hn60 t htx (i := pp) (by omega)) k_X1_51 (r_recv hW (x := (0, 22)) (in_r (by decide) (by decide)) rfl rfl) (hl.1) rfl rfl (Nat.le_of_ble_eq_true rfl) ⟨Nat.le_of_ble_eq_true rfl, Nat.le_of_ble_eq_true rfl⟩ ⟨Nat.le_of_ble_eq_true rfl, Nat.le_of_ble_eq_true rfl⟩ dX1_takeSign_5) hW (fun r5 H locs hp5 hW => ?_)
  have hp5 := hp5.symm
  subst hp5
  refine lv_iload_n hxe hcd dX1_takeSign_8 rfl (lv_at hl 1 rfl) ?_
  refine lv_icmp_eq (tgt := 14) hxe hcd dX1_takeSign_9 (by decide) (fun c9 => ?_) (fun c9 => ?_)
  · refine lv_aload_n hxe hcd dX1_takeSign_14 rfl (lv_at hl 0 rfl) ?_
    refine lv_dup hxe hcd dX1_takeSign_15 rfl ?_
    refine gf_X1_28 S hW dX1_takeSign_16 ?_
    refine r_as (y := (nI pp)) (hpp) ?_
    refine lv_iconst (v := (nI 1)) hxe hcd dX1_takeSign_19 (by decide) ?_
    refine n_iadd S (a := pp) (b := 1) dX1_takeSign_20 ?_
    refine gp_X1_28 S hW dX1_takeSign_21 (fun H locs hW => ?_)
    refine lv_iconst (v := (nI 1)) hxe hcd dX1_takeSign_24 (by decide) ?_
    refine r_zret S hr hlk (F := (cE Z A g)) (u := (up2 μ 0 22 (upd (μ 0 22) 5 (nI (pp + 1))))) hW (by decide +kernel) ?_ dX1_takeSign_25
    exact Or.inl ⟨c9, rfl, rfl⟩
  · refine lv_iconst (v := (nI 0)) hxe hcd dX1_takeSign_12 (by decide) ?_
    refine r_zret S hr hlk (F := (cE Z A g)) (u := μ) hW (by decide +kernel) ?_ dX1_takeSign_13
    exact Or.inr ⟨c9, rfl, rfl⟩
set_option maxHeartbeats 4000000 in
set_option maxRecDepth 100000 in
theorem t_X1_takeNumber (l : Launch) {Z : ZT} (hZ : zOK Z) (A : Nat × Nat → Nat) (g : Nat → Bool) (μ : CM) (sz : Nat) {mo : Nat} (hmo : mo ≤ 3) {n : Nat} (hen : μ 0 22 1 = nI n) (hn60 : n ≤ 60) (t : Nat → Nat) (htx : ∀ j, j < n → μ 0 23 j = nI (t j) ∧ t j < 128) {pp : Nat} (hpp : μ 0 22 5 = nI pp) (hpn : pp ≤ n) : XMi l yX1_takeNumber cX1_takeNumber 4 (some .int) 3 [.ref (A (0, 22)), .int (nI mo)] Z (ids g) A (cE Z A g) μ sz (fun r u => ∃ d, DG t n pp mo d ∧ ((d = 0 ∧ r = -1) ∨ (0 < d ∧ r = nI (dvN t pp d))) ∧ u = CQ μ (pp + d)) := by
  refine r_met (E := (cE Z A g μ)) (by decide +kernel) (Nat.le_of_ble_eq_true rfl) ?_
  intro p e s m below meth c ls S hr hlk hnm hsz hW hl
  have hxe := S.1
  have hcd := S.2.1
  subst hsz
  have hl : lv_has ls 4 [(0, .ref (A (0, 22))), (1, .int (nI mo))] := hl
  refine lv_iconst (v := (nI 0)) hxe hcd dX1_takeNumber_0 (by decide) ?_
  refine lv_istore_n (lv' := [(2, .int (nI 0)), (0, .ref (A (0, 22))), (1, .int (nI mo))]) hxe hcd dX1_takeNumber_1 rfl hl (by decide) rfl (fun ls hl => ?_)
  refine lv_iconst (v := (nI 0)) hxe hcd dX1_takeNumber_2 (by decide) ?_
  refine lv_istore_n (lv' := [(3, .int (nI 0)), (2, .int (nI 0)), (0, .ref (A (0, 22))), (1, .int (nI mo))]) hxe hcd dX1_takeNumber_3 rfl hl (by decide) rfl (fun ls hl => ?_)
  have hl : lv_has ls 4 [(3, .int (nI 0)), (2, .int (nI (dvN t pp 0))), (0, .ref (A (0, 22))), (1, .int (nI mo))] := hl
  have loop4 : ∀ (n_ : Nat) (d : Nat), mo - d < n_ → (d ≤ mo) → (dgN t n pp d) → (pp + d ≤ n) → ∀ (H : Heap) (locs : List Loc) (ls : Array Slot), wX Z (ids g) A (cE Z A g (CQ μ (pp + d))) (fA (ids g) A (cE Z A g μ) s.heap.size) s H locs → lv_has ls 4 [(0, .ref (A (0, 22))), (1, .int (nI mo)), (2, .int (nI (dvN t pp d))), (3, .int (nI d))] → W p l e (rmD 3 0 0) s m ([.ref (A (0, 22)), .int (nI mo)] : List Value).toArray below meth c H locs 0 0 (MQ below (va_Qi (fun r u => ∃ d, DG t n pp mo d ∧ ((d = 0 ∧ r = -1) ∨ (0 < d ∧ r = nI (dvN t pp d))) ∧ u = CQ μ (pp + d)) (fun u t => qB Z (ids g) A ((cE Z A g) u) (fA (ids g) A (cE Z A g μ) s.heap.size) t) (fA (ids g) A (cE Z A g μ) s.heap.size)) ([.ref (A (0, 22)), .int (nI mo)] : List Value).toArray s 0 0 (fA (ids g) A (cE Z A g μ) s.heap.size)) (F0 m 4 ls []) := by
    intro n_
    induction n_ with
    | zero => intro d hm; exact absurd hm (Nat.not_lt_zero _)
    | succ n_ ih4 =>
      intro d hm hd hdg hpd H locs ls hW hl
      refine lv_iload_n hxe hcd dX1_takeNumber_4 rfl (lv_at hl 3 rfl) ?_
      refine lv_iload_n hxe hcd dX1_takeNumber_5 rfl (lv_at hl 1 rfl) ?_
      refine n_ge S (a := d) (b := mo) (by omega) (by omega) dX1_takeNumber_6 (tgt := 60) (by decide) (fun c6 => ?_) (fun c6 => ?_)
      · refine lv_iload_n hxe hcd dX1_takeNumber_60 rfl (lv_at hl 3 rfl) ?_
        refine n_ifle S (a := d) (by omega) dX1_takeNumber_61 (tgt := 68) (by decide) (fun c61 => ?_) (fun c61 => ?_)
        · refine lv_iconst (v := (-1)) hxe hcd dX1_takeNumber_68 (by decide) ?_
          refine r_iret S hr hlk (F := (cE Z A g)) (u := (CQ μ (pp + d))) hW ?_ dX1_takeNumber_69
          refine ⟨d, ⟨hd, hdg, fun h => absurd h (by omega)⟩, Or.inl ⟨by omega, rfl⟩, rfl⟩
        · refine lv_iload_n hxe hcd dX1_takeNumber_64 rfl (lv_at hl 2 rfl) ?_
          refine lv_goto (tgt := 69) hxe hcd dX1_takeNumber_65 (by decide) ?_
          refine r_iret S hr hlk (F := (cE Z A g)) (u := (CQ μ (pp + d))) hW ?_ dX1_takeNumber_69
          refine ⟨d, ⟨hd, hdg, fun h => absurd h (by omega)⟩, Or.inr ⟨by omega, rfl⟩, rfl⟩
      · refine lv_aload_n hxe hcd dX1_takeNumber_9 rfl (lv_at hl 0 rfl) ?_
        refine lv_aload_n hxe hcd dX1_takeNumber_10 rfl (lv_at hl 0 rfl) ?_
        refine gf_X1_28 S hW dX1_takeNumber_11 ?_
        refine r_as (y := (nI (pp + d))) ((CQ_h _ _)) ?_
        refine r_calli0 (r_runV hZ S hW (As := [.int (nI (pp + d))]) (rest := []) (t_X1_characterAt l hZ A g (CQ μ (pp + d)) H.size ((CQ_n _ _).trans hen) hn60 t (fun j hj => by rw [CQ_t]; exact htx j hj) (i := (pp + d)) (by omega)) k_X1_51 (r_recv hW (x := (0, 22)) (in_r (by decide) (by decide)) rfl rfl) (hl.1) rfl rfl (Nat.le_of_ble_eq_true rfl) ⟨Nat.le_of_ble_eq_true rfl, Nat.le_of_ble_eq_true rfl⟩ ⟨Nat.le_of_ble_eq_true rfl, Nat.le_of_ble_eq_true rfl⟩ dX1_takeNumber_14) hW (fun r14 H locs hp14 hW => ?_)
        have hp14 := hp14.symm
        subst hp14
        refine lv_bipush (v := (nI 48)) hxe hcd dX1_takeNumber_17 (by decide) ?_
        refine lv_bipush (v := (nI 57)) hxe hcd dX1_takeNumber_19 (by decide) ?_
        refine r_calli0 (r_runSN hZ S hW (As := [.int (chT t n (pp + d)), .int (nI 48), .int (nI 57)]) (rest := []) (t_X9_isWithin l hZ (ids g) A (cE Z A g (CQ μ (pp + d))) H.size (chT t n (pp + d)) (nI 48) (nI 57)) k_X1_31 (hl.1) rfl rfl (Nat.le_of_ble_eq_true rfl) ⟨Nat.le_of_ble_eq_true rfl, Nat.le_of_ble_eq_true rfl⟩ ⟨Nat.le_of_ble_eq_true rfl, Nat.le_of_ble_eq_true rfl⟩ dX1_takeNumber_21) hW (fun r21 H locs hp21 hW => ?_)
        rcases hp21 with ⟨hp210, hp21⟩ | ⟨hp210, hp21⟩
        · subst hp210
          refine lv_if_eq (tgt := 60) hxe hcd dX1_takeNumber_24 (by decide) (fun h => absurd h (by decide)) (fun _ => ?_)
          have hdd := isD_ch (fun j hj => (htx j hj).2) hp21
          refine lv_iload_n hxe hcd dX1_takeNumber_27 rfl (lv_at hl 2 rfl) ?_
          refine lv_bipush (v := (nI 10)) hxe hcd dX1_takeNumber_28 (by decide) ?_
          refine n_imul S (a := (dvN t pp d)) (b := 10) dX1_takeNumber_30 ?_
          refine lv_aload_n hxe hcd dX1_takeNumber_31 rfl (lv_at hl 0 rfl) ?_
          refine lv_aload_n hxe hcd dX1_takeNumber_32 rfl (lv_at hl 0 rfl) ?_
          refine gf_X1_28 S hW dX1_takeNumber_33 ?_
          refine r_as (y := (nI (pp + d))) ((CQ_h _ _)) ?_
          refine r_calli0 (r_runV hZ S hW (As := [.int (nI (pp + d))]) (rest := [.int (nI ((dvN t pp d) * 10))]) (t_X1_characterAt l hZ A g (CQ μ (pp + d)) H.size ((CQ_n _ _).trans hen) hn60 t (fun j hj => by rw [CQ_t]; exact htx j hj) (i := (pp + d)) (by omega)) k_X1_51 (r_recv hW (x := (0, 22)) (in_r (by decide) (by decide)) rfl rfl) (hl.1) rfl rfl (Nat.le_of_ble_eq_true rfl) ⟨Nat.le_of_ble_eq_true rfl, Nat.le_of_ble_eq_true rfl⟩ ⟨Nat.le_of_ble_eq_true rfl, Nat.le_of_ble_eq_true rfl⟩ dX1_takeNumber_36) hW (fun r36 H locs hp36 hW => ?_)
          have hp36 := hp36.symm
          subst hp36
          refine r_as (y := (nI (t (pp + d)))) (by rw [chT, if_pos hdd.1]) ?_
          refine n_iadd S (a := ((dvN t pp d) * 10)) (b := (t (pp + d))) dX1_takeNumber_39 ?_
          refine lv_bipush (v := (nI 48)) hxe hcd dX1_takeNumber_40 (by decide) ?_
          refine n_isub S (a := (((dvN t pp d) * 10) + (t (pp + d)))) (b := 48) (by omega) dX1_takeNumber_42 ?_
          refine lv_istore_n (lv' := [(2, .int (nI ((((dvN t pp d) * 10) + (t (pp + d))) - 48))), (0, .ref (A (0, 22))), (1, .int (nI mo)), (3, .int (nI d))]) hxe hcd dX1_takeNumber_43 rfl hl (by decide) rfl (fun ls hl => ?_)
          refine lv_iinc (v := (nI (d + 1))) (lv' := [(3, .int (nI (d + 1))), (2, .int (nI ((((dvN t pp d) * 10) + (t (pp + d))) - 48))), (0, .ref (A (0, 22))), (1, .int (nI mo))]) hxe hcd dX1_takeNumber_44 hl (k := 3) rfl (nI_add d 1) (by decide) rfl (fun ls hl => ?_)
          refine lv_aload_n hxe hcd dX1_takeNumber_47 rfl (lv_at hl 2 rfl) ?_
          refine lv_dup hxe hcd dX1_takeNumber_48 rfl ?_
          refine gf_X1_28 S hW dX1_takeNumber_49 ?_
          refine r_as (y := (nI (pp + d))) ((CQ_h _ _)) ?_
          refine lv_iconst (v := (nI 1)) hxe hcd dX1_takeNumber_52 (by decide) ?_
          refine n_iadd S (a := (pp + d)) (b := 1) dX1_takeNumber_53 ?_
          refine gp_X1_28 S hW dX1_takeNumber_54 (fun H locs hW => ?_)
          refine lv_goto (tgt := 4) hxe hcd dX1_takeNumber_57 (by decide) ?_
          have hl : lv_has ls 4 [(3, .int (nI (d + 1))), (2, .int (nI (dvN t pp (d + 1)))), (0, .ref (A (0, 22))), (1, .int (nI mo))] := by
            rw [show dvN t pp (d + 1) = dvN t pp d * 10 + t (pp + d) - 48 from by rw [dvN]; omega]
            exact lv_sub hl [0, 1, 2, 3] rfl
          exact ih4 (d + 1) (by omega) (by omega) ⟨hdg, hp21⟩ (by omega) _ _ _ (by rw [CQ_s] at hW; exact hW) (lv_sub hl [2, 3, 1, 0] rfl)
        · subst hp210
          refine lv_if_eq (tgt := 60) hxe hcd dX1_takeNumber_24 (by decide) (fun _ => ?_) (fun h => absurd (by decide) h)
          refine lv_iload_n hxe hcd dX1_takeNumber_60 rfl (lv_at hl 3 rfl) ?_
          refine n_ifle S (a := d) (by omega) dX1_takeNumber_61 (tgt := 68) (by decide) (fun c61 => ?_) (fun c61 => ?_)
          · refine lv_iconst (v := (-1)) hxe hcd dX1_takeNumber_68 (by decide) ?_
            refine r_iret S hr hlk (F := (cE Z A g)) (u := (CQ μ (pp + d))) hW ?_ dX1_takeNumber_69
            refine ⟨d, ⟨hd, hdg, fun h => hp21⟩, Or.inl ⟨by omega, rfl⟩, rfl⟩
          · refine lv_iload_n hxe hcd dX1_takeNumber_64 rfl (lv_at hl 2 rfl) ?_
            refine lv_goto (tgt := 69) hxe hcd dX1_takeNumber_65 (by decide) ?_
            refine r_iret S hr hlk (F := (cE Z A g)) (u := (CQ μ (pp + d))) hW ?_ dX1_takeNumber_69
            refine ⟨d, ⟨hd, hdg, fun h => hp21⟩, Or.inr ⟨by omega, rfl⟩, rfl⟩
  exact loop4 (mo + 1) 0 (Nat.lt_succ_self _) (Nat.zero_le _) trivial hpn _ _ _ (by rw [Nat.add_zero, CQ_id hpp]; exact hW) (lv_sub hl [2, 3, 1, 0] rfl)
